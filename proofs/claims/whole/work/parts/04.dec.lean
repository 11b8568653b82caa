theorem dX0_init_0 : decode cX0_init 0 = .ok (.aload_n 0, 1) := by decide +kernel
theorem dX0_init_1 : decode cX0_init 1 = .ok (.invokespecial 3, 3) := by decide +kernel
theorem dX0_init_4 : decode cX0_init 4 = .ok (.aload_n 0, 1) := by decide +kernel
theorem dX0_init_5 : decode cX0_init 5 = .ok (.sipush 289, 3) := by decide +kernel
theorem dX0_init_8 : decode cX0_init 8 = .ok (.newarray .int, 2) := by decide +kernel
theorem dX0_init_10 : decode cX0_init 10 = .ok (.putfield 9, 3) := by decide +kernel
theorem dX0_init_13 : decode cX0_init 13 = .ok (.aload_n 0, 1) := by decide +kernel
theorem dX0_init_14 : decode cX0_init 14 = .ok (.iconst (-1), 1) := by decide +kernel
theorem dX0_init_15 : decode cX0_init 15 = .ok (.putfield 15, 3) := by decide +kernel
theorem dX0_init_18 : decode cX0_init 18 = .ok (.aload_n 0, 1) := by decide +kernel
theorem dX0_init_19 : decode cX0_init 19 = .ok (.iconst (-1), 1) := by decide +kernel
theorem dX0_init_20 : decode cX0_init 20 = .ok (.putfield 19, 3) := by decide +kernel
theorem dX0_init_23 : decode cX0_init 23 = .ok (.aload_n 0, 1) := by decide +kernel
theorem dX0_init_24 : decode cX0_init 24 = .ok (.invokevirtual 22, 3) := by decide +kernel
theorem dX0_init_27 : decode cX0_init 27 = .ok (.return_, 1) := by decide +kernel
theorem dX0_clear_0 : decode cX0_clear 0 = .ok (.aload_n 0, 1) := by decide +kernel
theorem dX0_clear_1 : decode cX0_clear 1 = .ok (.getfield 9, 3) := by decide +kernel
theorem dX0_clear_4 : decode cX0_clear 4 = .ok (.iconst (-1), 1) := by decide +kernel
theorem dX0_clear_5 : decode cX0_clear 5 = .ok (.invokestatic 25, 3) := by decide +kernel
theorem dX0_clear_8 : decode cX0_clear 8 = .ok (.iconst 0, 1) := by decide +kernel
theorem dX0_clear_9 : decode cX0_clear 9 = .ok (.istore_n 1, 1) := by decide +kernel
theorem dX0_clear_10 : decode cX0_clear 10 = .ok (.iload_n 1, 1) := by decide +kernel
theorem dX0_clear_11 : decode cX0_clear 11 = .ok (.bipush 91, 2) := by decide +kernel
theorem dX0_clear_13 : decode cX0_clear 13 = .ok (.if_icmp .ge 34, 3) := by decide +kernel
theorem dX0_clear_16 : decode cX0_clear 16 = .ok (.iload_n 1, 1) := by decide +kernel
theorem dX0_clear_17 : decode cX0_clear 17 = .ok (.invokestatic 31, 3) := by decide +kernel
theorem dX0_clear_20 : decode cX0_clear 20 = .ok (.istore_n 2, 1) := by decide +kernel
theorem dX0_clear_21 : decode cX0_clear 21 = .ok (.iload_n 2, 1) := by decide +kernel
theorem dX0_clear_22 : decode cX0_clear 22 = .ok (.ifCond .lt 19, 3) := by decide +kernel
theorem dX0_clear_25 : decode cX0_clear 25 = .ok (.iload_n 2, 1) := by decide +kernel
theorem dX0_clear_26 : decode cX0_clear 26 = .ok (.aload_n 0, 1) := by decide +kernel
theorem dX0_clear_27 : decode cX0_clear 27 = .ok (.getfield 9, 3) := by decide +kernel
theorem dX0_clear_30 : decode cX0_clear 30 = .ok (.arraylength, 1) := by decide +kernel
theorem dX0_clear_31 : decode cX0_clear 31 = .ok (.if_icmp .ge 10, 3) := by decide +kernel
theorem dX0_clear_34 : decode cX0_clear 34 = .ok (.aload_n 0, 1) := by decide +kernel
theorem dX0_clear_35 : decode cX0_clear 35 = .ok (.getfield 9, 3) := by decide +kernel
theorem dX0_clear_38 : decode cX0_clear 38 = .ok (.iload_n 2, 1) := by decide +kernel
theorem dX0_clear_39 : decode cX0_clear 39 = .ok (.iconst 0, 1) := by decide +kernel
theorem dX0_clear_40 : decode cX0_clear 40 = .ok (.iastore, 1) := by decide +kernel
theorem dX0_clear_41 : decode cX0_clear 41 = .ok (.iinc 1 1, 3) := by decide +kernel
theorem dX0_clear_44 : decode cX0_clear 44 = .ok (.goto (-34), 3) := by decide +kernel
theorem dX0_clear_47 : decode cX0_clear 47 = .ok (.aload_n 0, 1) := by decide +kernel
theorem dX0_clear_48 : decode cX0_clear 48 = .ok (.iconst (-1), 1) := by decide +kernel
theorem dX0_clear_49 : decode cX0_clear 49 = .ok (.putfield 15, 3) := by decide +kernel
theorem dX0_clear_52 : decode cX0_clear 52 = .ok (.aload_n 0, 1) := by decide +kernel
theorem dX0_clear_53 : decode cX0_clear 53 = .ok (.iconst (-1), 1) := by decide +kernel
theorem dX0_clear_54 : decode cX0_clear 54 = .ok (.putfield 19, 3) := by decide +kernel
theorem dX0_clear_57 : decode cX0_clear 57 = .ok (.return_, 1) := by decide +kernel
theorem dX0_on_0 : decode cX0_on 0 = .ok (.iload_n 1, 1) := by decide +kernel
theorem dX0_on_1 : decode cX0_on 1 = .ok (.ifCond .lt 21, 3) := by decide +kernel
theorem dX0_on_4 : decode cX0_on 4 = .ok (.iload_n 1, 1) := by decide +kernel
theorem dX0_on_5 : decode cX0_on 5 = .ok (.aload_n 0, 1) := by decide +kernel
theorem dX0_on_6 : decode cX0_on 6 = .ok (.getfield 9, 3) := by decide +kernel
theorem dX0_on_9 : decode cX0_on 9 = .ok (.arraylength, 1) := by decide +kernel
theorem dX0_on_10 : decode cX0_on 10 = .ok (.if_icmp .ge 12, 3) := by decide +kernel
theorem dX0_on_13 : decode cX0_on 13 = .ok (.aload_n 0, 1) := by decide +kernel
theorem dX0_on_14 : decode cX0_on 14 = .ok (.getfield 9, 3) := by decide +kernel
theorem dX0_on_17 : decode cX0_on 17 = .ok (.iload_n 1, 1) := by decide +kernel
theorem dX0_on_18 : decode cX0_on 18 = .ok (.iaload, 1) := by decide +kernel
theorem dX0_on_19 : decode cX0_on 19 = .ok (.goto 4, 3) := by decide +kernel
theorem dX0_on_22 : decode cX0_on 22 = .ok (.iconst (-1), 1) := by decide +kernel
theorem dX0_on_23 : decode cX0_on 23 = .ok (.ireturn, 1) := by decide +kernel
theorem dX0_set_0 : decode cX0_set 0 = .ok (.iload_n 1, 1) := by decide +kernel
theorem dX0_set_1 : decode cX0_set 1 = .ok (.ifCond .lt 22, 3) := by decide +kernel
theorem dX0_set_4 : decode cX0_set 4 = .ok (.iload_n 1, 1) := by decide +kernel
theorem dX0_set_5 : decode cX0_set 5 = .ok (.aload_n 0, 1) := by decide +kernel
theorem dX0_set_6 : decode cX0_set 6 = .ok (.getfield 9, 3) := by decide +kernel
theorem dX0_set_9 : decode cX0_set 9 = .ok (.arraylength, 1) := by decide +kernel
theorem dX0_set_10 : decode cX0_set 10 = .ok (.if_icmp .ge 13, 3) := by decide +kernel
theorem dX0_set_13 : decode cX0_set 13 = .ok (.aload_n 0, 1) := by decide +kernel
theorem dX0_set_14 : decode cX0_set 14 = .ok (.getfield 9, 3) := by decide +kernel
theorem dX0_set_17 : decode cX0_set 17 = .ok (.iload_n 1, 1) := by decide +kernel
theorem dX0_set_18 : decode cX0_set 18 = .ok (.iaload, 1) := by decide +kernel
theorem dX0_set_19 : decode cX0_set 19 = .ok (.iconst (-1), 1) := by decide +kernel
theorem dX0_set_20 : decode cX0_set 20 = .ok (.if_icmp .ne 4, 3) := by decide +kernel
theorem dX0_set_23 : decode cX0_set 23 = .ok (.return_, 1) := by decide +kernel
theorem dX0_set_24 : decode cX0_set 24 = .ok (.aload_n 0, 1) := by decide +kernel
theorem dX0_set_25 : decode cX0_set 25 = .ok (.getfield 9, 3) := by decide +kernel
theorem dX0_set_28 : decode cX0_set 28 = .ok (.iload_n 1, 1) := by decide +kernel
theorem dX0_set_29 : decode cX0_set 29 = .ok (.iload_n 2, 1) := by decide +kernel
theorem dX0_set_30 : decode cX0_set 30 = .ok (.iastore, 1) := by decide +kernel
theorem dX0_set_31 : decode cX0_set 31 = .ok (.iload_n 1, 1) := by decide +kernel
theorem dX0_set_32 : decode cX0_set 32 = .ok (.aload_n 0, 1) := by decide +kernel
theorem dX0_set_33 : decode cX0_set 33 = .ok (.getfield 15, 3) := by decide +kernel
theorem dX0_set_36 : decode cX0_set 36 = .ok (.if_icmp .ne 8, 3) := by decide +kernel
theorem dX0_set_39 : decode cX0_set 39 = .ok (.aload_n 0, 1) := by decide +kernel
theorem dX0_set_40 : decode cX0_set 40 = .ok (.iconst (-1), 1) := by decide +kernel
theorem dX0_set_41 : decode cX0_set 41 = .ok (.putfield 15, 3) := by decide +kernel
theorem dX0_set_44 : decode cX0_set 44 = .ok (.iload_n 1, 1) := by decide +kernel
theorem dX0_set_45 : decode cX0_set 45 = .ok (.aload_n 0, 1) := by decide +kernel
theorem dX0_set_46 : decode cX0_set 46 = .ok (.getfield 19, 3) := by decide +kernel
theorem dX0_set_49 : decode cX0_set 49 = .ok (.if_icmp .ne 8, 3) := by decide +kernel
theorem dX0_set_52 : decode cX0_set 52 = .ok (.aload_n 0, 1) := by decide +kernel
theorem dX0_set_53 : decode cX0_set 53 = .ok (.iconst (-1), 1) := by decide +kernel
theorem dX0_set_54 : decode cX0_set 54 = .ok (.putfield 19, 3) := by decide +kernel
theorem dX0_set_57 : decode cX0_set 57 = .ok (.iload_n 2, 1) := by decide +kernel
theorem dX0_set_58 : decode cX0_set 58 = .ok (.iconst 1, 1) := by decide +kernel
theorem dX0_set_59 : decode cX0_set 59 = .ok (.if_icmp .ne 8, 3) := by decide +kernel
theorem dX0_set_62 : decode cX0_set 62 = .ok (.aload_n 0, 1) := by decide +kernel
theorem dX0_set_63 : decode cX0_set 63 = .ok (.iload_n 1, 1) := by decide +kernel
theorem dX0_set_64 : decode cX0_set 64 = .ok (.putfield 15, 3) := by decide +kernel
theorem dX0_set_67 : decode cX0_set 67 = .ok (.iload_n 2, 1) := by decide +kernel
theorem dX0_set_68 : decode cX0_set 68 = .ok (.bipush 9, 2) := by decide +kernel
theorem dX0_set_70 : decode cX0_set 70 = .ok (.if_icmp .ne 8, 3) := by decide +kernel
theorem dX0_set_73 : decode cX0_set 73 = .ok (.aload_n 0, 1) := by decide +kernel
theorem dX0_set_74 : decode cX0_set 74 = .ok (.iload_n 1, 1) := by decide +kernel
theorem dX0_set_75 : decode cX0_set 75 = .ok (.putfield 19, 3) := by decide +kernel
theorem dX0_set_78 : decode cX0_set 78 = .ok (.return_, 1) := by decide +kernel
theorem dX0_kingOf_0 : decode cX0_kingOf 0 = .ok (.iload_n 1, 1) := by decide +kernel
theorem dX0_kingOf_1 : decode cX0_kingOf 1 = .ok (.ifCond .ne 10, 3) := by decide +kernel
theorem dX0_kingOf_4 : decode cX0_kingOf 4 = .ok (.aload_n 0, 1) := by decide +kernel
theorem dX0_kingOf_5 : decode cX0_kingOf 5 = .ok (.getfield 15, 3) := by decide +kernel
theorem dX0_kingOf_8 : decode cX0_kingOf 8 = .ok (.goto 7, 3) := by decide +kernel
theorem dX0_kingOf_11 : decode cX0_kingOf 11 = .ok (.aload_n 0, 1) := by decide +kernel
theorem dX0_kingOf_12 : decode cX0_kingOf 12 = .ok (.getfield 19, 3) := by decide +kernel
theorem dX0_kingOf_15 : decode cX0_kingOf 15 = .ok (.ireturn, 1) := by decide +kernel
theorem dX0_firstTaken_0 : decode cX0_firstTaken 0 = .ok (.iload_n 1, 1) := by decide +kernel
theorem dX0_firstTaken_1 : decode cX0_firstTaken 1 = .ok (.iload_n 2, 1) := by decide +kernel
theorem dX0_firstTaken_2 : decode cX0_firstTaken 2 = .ok (.iadd, 1) := by decide +kernel
theorem dX0_firstTaken_3 : decode cX0_firstTaken 3 = .ok (.istore_n 3, 1) := by decide +kernel
theorem dX0_firstTaken_4 : decode cX0_firstTaken 4 = .ok (.iconst 0, 1) := by decide +kernel
theorem dX0_firstTaken_5 : decode cX0_firstTaken 5 = .ok (.istore 4, 2) := by decide +kernel
theorem dX0_firstTaken_7 : decode cX0_firstTaken 7 = .ok (.iload 4, 2) := by decide +kernel
theorem dX0_firstTaken_9 : decode cX0_firstTaken 9 = .ok (.bipush 17, 2) := by decide +kernel
theorem dX0_firstTaken_11 : decode cX0_firstTaken 11 = .ok (.if_icmp .ge 38, 3) := by decide +kernel
theorem dX0_firstTaken_14 : decode cX0_firstTaken 14 = .ok (.iload_n 3, 1) := by decide +kernel
theorem dX0_firstTaken_15 : decode cX0_firstTaken 15 = .ok (.ifCond .lt 34, 3) := by decide +kernel
theorem dX0_firstTaken_18 : decode cX0_firstTaken 18 = .ok (.iload_n 3, 1) := by decide +kernel
theorem dX0_firstTaken_19 : decode cX0_firstTaken 19 = .ok (.aload_n 0, 1) := by decide +kernel
theorem dX0_firstTaken_20 : decode cX0_firstTaken 20 = .ok (.getfield 9, 3) := by decide +kernel
theorem dX0_firstTaken_23 : decode cX0_firstTaken 23 = .ok (.arraylength, 1) := by decide +kernel
theorem dX0_firstTaken_24 : decode cX0_firstTaken 24 = .ok (.if_icmp .ge 25, 3) := by decide +kernel
theorem dX0_firstTaken_27 : decode cX0_firstTaken 27 = .ok (.aload_n 0, 1) := by decide +kernel
theorem dX0_firstTaken_28 : decode cX0_firstTaken 28 = .ok (.getfield 9, 3) := by decide +kernel
theorem dX0_firstTaken_31 : decode cX0_firstTaken 31 = .ok (.iload_n 3, 1) := by decide +kernel
theorem dX0_firstTaken_32 : decode cX0_firstTaken 32 = .ok (.iaload, 1) := by decide +kernel
theorem dX0_firstTaken_33 : decode cX0_firstTaken 33 = .ok (.ifCond .eq 6, 3) := by decide +kernel
theorem dX0_firstTaken_36 : decode cX0_firstTaken 36 = .ok (.goto 13, 3) := by decide +kernel
theorem dX0_firstTaken_39 : decode cX0_firstTaken 39 = .ok (.iload_n 3, 1) := by decide +kernel
theorem dX0_firstTaken_40 : decode cX0_firstTaken 40 = .ok (.iload_n 2, 1) := by decide +kernel
theorem dX0_firstTaken_41 : decode cX0_firstTaken 41 = .ok (.iadd, 1) := by decide +kernel
theorem dX0_firstTaken_42 : decode cX0_firstTaken 42 = .ok (.istore_n 3, 1) := by decide +kernel
theorem dX0_firstTaken_43 : decode cX0_firstTaken 43 = .ok (.iinc 4 1, 3) := by decide +kernel
theorem dX0_firstTaken_46 : decode cX0_firstTaken 46 = .ok (.goto (-39), 3) := by decide +kernel
theorem dX0_firstTaken_49 : decode cX0_firstTaken 49 = .ok (.iload_n 3, 1) := by decide +kernel
theorem dX0_firstTaken_50 : decode cX0_firstTaken 50 = .ok (.ireturn, 1) := by decide +kernel
theorem dX0_attackers_0 : decode cX0_attackers 0 = .ok (.iconst 0, 1) := by decide +kernel
theorem dX0_attackers_1 : decode cX0_attackers 1 = .ok (.istore_n 3, 1) := by decide +kernel
theorem dX0_attackers_2 : decode cX0_attackers 2 = .ok (.iconst 0, 1) := by decide +kernel
theorem dX0_attackers_3 : decode cX0_attackers 3 = .ok (.istore 4, 2) := by decide +kernel
theorem dX0_attackers_5 : decode cX0_attackers 5 = .ok (.iload 4, 2) := by decide +kernel
theorem dX0_attackers_7 : decode cX0_attackers 7 = .ok (.getstatic 35, 3) := by decide +kernel
theorem dX0_attackers_10 : decode cX0_attackers 10 = .ok (.arraylength, 1) := by decide +kernel
theorem dX0_attackers_11 : decode cX0_attackers 11 = .ok (.if_icmp .ge 73, 3) := by decide +kernel
theorem dX0_attackers_14 : decode cX0_attackers 14 = .ok (.aload_n 0, 1) := by decide +kernel
theorem dX0_attackers_15 : decode cX0_attackers 15 = .ok (.iload_n 1, 1) := by decide +kernel
theorem dX0_attackers_16 : decode cX0_attackers 16 = .ok (.getstatic 35, 3) := by decide +kernel
theorem dX0_attackers_19 : decode cX0_attackers 19 = .ok (.iload 4, 2) := by decide +kernel
theorem dX0_attackers_21 : decode cX0_attackers 21 = .ok (.iaload, 1) := by decide +kernel
theorem dX0_attackers_22 : decode cX0_attackers 22 = .ok (.invokevirtual 38, 3) := by decide +kernel
theorem dX0_attackers_25 : decode cX0_attackers 25 = .ok (.istore 5, 2) := by decide +kernel
theorem dX0_attackers_27 : decode cX0_attackers 27 = .ok (.aload_n 0, 1) := by decide +kernel
theorem dX0_attackers_28 : decode cX0_attackers 28 = .ok (.iload 5, 2) := by decide +kernel
theorem dX0_attackers_30 : decode cX0_attackers 30 = .ok (.invokevirtual 42, 3) := by decide +kernel
theorem dX0_attackers_33 : decode cX0_attackers 33 = .ok (.istore 6, 2) := by decide +kernel
theorem dX0_attackers_35 : decode cX0_attackers 35 = .ok (.iload 6, 2) := by decide +kernel
theorem dX0_attackers_37 : decode cX0_attackers 37 = .ok (.invokestatic 45, 3) := by decide +kernel
theorem dX0_attackers_40 : decode cX0_attackers 40 = .ok (.iload_n 2, 1) := by decide +kernel
theorem dX0_attackers_41 : decode cX0_attackers 41 = .ok (.if_icmp .ne 37, 3) := by decide +kernel
theorem dX0_attackers_44 : decode cX0_attackers 44 = .ok (.iload 6, 2) := by decide +kernel
theorem dX0_attackers_46 : decode cX0_attackers 46 = .ok (.invokestatic 48, 3) := by decide +kernel
theorem dX0_attackers_49 : decode cX0_attackers 49 = .ok (.iload 4, 2) := by decide +kernel
theorem dX0_attackers_51 : decode cX0_attackers 51 = .ok (.iload 5, 2) := by decide +kernel
theorem dX0_attackers_53 : decode cX0_attackers 53 = .ok (.iload_n 1, 1) := by decide +kernel
theorem dX0_attackers_54 : decode cX0_attackers 54 = .ok (.getstatic 35, 3) := by decide +kernel
theorem dX0_attackers_57 : decode cX0_attackers 57 = .ok (.iload 4, 2) := by decide +kernel
theorem dX0_attackers_59 : decode cX0_attackers 59 = .ok (.iaload, 1) := by decide +kernel
theorem dX0_attackers_60 : decode cX0_attackers 60 = .ok (.iadd, 1) := by decide +kernel
theorem dX0_attackers_61 : decode cX0_attackers 61 = .ok (.if_icmp .ne 7, 3) := by decide +kernel
theorem dX0_attackers_64 : decode cX0_attackers 64 = .ok (.iconst 1, 1) := by decide +kernel
theorem dX0_attackers_65 : decode cX0_attackers 65 = .ok (.goto 4, 3) := by decide +kernel
theorem dX0_attackers_68 : decode cX0_attackers 68 = .ok (.iconst 0, 1) := by decide +kernel
theorem dX0_attackers_69 : decode cX0_attackers 69 = .ok (.invokestatic 51, 3) := by decide +kernel
theorem dX0_attackers_72 : decode cX0_attackers 72 = .ok (.ifCond .eq 6, 3) := by decide +kernel
theorem dX0_attackers_75 : decode cX0_attackers 75 = .ok (.iinc 3 1, 3) := by decide +kernel
theorem dX0_attackers_78 : decode cX0_attackers 78 = .ok (.iinc 4 1, 3) := by decide +kernel
theorem dX0_attackers_81 : decode cX0_attackers 81 = .ok (.goto (-76), 3) := by decide +kernel
theorem dX0_attackers_84 : decode cX0_attackers 84 = .ok (.iload_n 2, 1) := by decide +kernel
theorem dX0_attackers_85 : decode cX0_attackers 85 = .ok (.iconst 5, 1) := by decide +kernel
theorem dX0_attackers_86 : decode cX0_attackers 86 = .ok (.invokestatic 55, 3) := by decide +kernel
theorem dX0_attackers_89 : decode cX0_attackers 89 = .ok (.istore 4, 2) := by decide +kernel
theorem dX0_attackers_91 : decode cX0_attackers 91 = .ok (.iconst 0, 1) := by decide +kernel
theorem dX0_attackers_92 : decode cX0_attackers 92 = .ok (.istore 5, 2) := by decide +kernel
theorem dX0_attackers_94 : decode cX0_attackers 94 = .ok (.iload 5, 2) := by decide +kernel
theorem dX0_attackers_96 : decode cX0_attackers 96 = .ok (.getstatic 58, 3) := by decide +kernel
theorem dX0_attackers_99 : decode cX0_attackers 99 = .ok (.arraylength, 1) := by decide +kernel
theorem dX0_attackers_100 : decode cX0_attackers 100 = .ok (.if_icmp .ge 29, 3) := by decide +kernel
theorem dX0_attackers_103 : decode cX0_attackers 103 = .ok (.aload_n 0, 1) := by decide +kernel
theorem dX0_attackers_104 : decode cX0_attackers 104 = .ok (.iload_n 1, 1) := by decide +kernel
theorem dX0_attackers_105 : decode cX0_attackers 105 = .ok (.getstatic 58, 3) := by decide +kernel
theorem dX0_attackers_108 : decode cX0_attackers 108 = .ok (.iload 5, 2) := by decide +kernel
theorem dX0_attackers_110 : decode cX0_attackers 110 = .ok (.iaload, 1) := by decide +kernel
theorem dX0_attackers_111 : decode cX0_attackers 111 = .ok (.iadd, 1) := by decide +kernel
theorem dX0_attackers_112 : decode cX0_attackers 112 = .ok (.invokevirtual 42, 3) := by decide +kernel
theorem dX0_attackers_115 : decode cX0_attackers 115 = .ok (.iload 4, 2) := by decide +kernel
theorem dX0_attackers_117 : decode cX0_attackers 117 = .ok (.if_icmp .ne 6, 3) := by decide +kernel
theorem dX0_attackers_120 : decode cX0_attackers 120 = .ok (.iinc 3 1, 3) := by decide +kernel
theorem dX0_attackers_123 : decode cX0_attackers 123 = .ok (.iinc 5 1, 3) := by decide +kernel
theorem dX0_attackers_126 : decode cX0_attackers 126 = .ok (.goto (-32), 3) := by decide +kernel
theorem dX0_attackers_129 : decode cX0_attackers 129 = .ok (.iload_n 2, 1) := by decide +kernel
theorem dX0_attackers_130 : decode cX0_attackers 130 = .ok (.bipush 6, 2) := by decide +kernel
theorem dX0_attackers_132 : decode cX0_attackers 132 = .ok (.invokestatic 55, 3) := by decide +kernel
theorem dX0_attackers_135 : decode cX0_attackers 135 = .ok (.istore 5, 2) := by decide +kernel
theorem dX0_attackers_137 : decode cX0_attackers 137 = .ok (.iconst 0, 1) := by decide +kernel
theorem dX0_attackers_138 : decode cX0_attackers 138 = .ok (.istore 6, 2) := by decide +kernel
theorem dX0_attackers_140 : decode cX0_attackers 140 = .ok (.iload 6, 2) := by decide +kernel
theorem dX0_attackers_142 : decode cX0_attackers 142 = .ok (.getstatic 61, 3) := by decide +kernel
theorem dX0_attackers_145 : decode cX0_attackers 145 = .ok (.arraylength, 1) := by decide +kernel
theorem dX0_attackers_146 : decode cX0_attackers 146 = .ok (.if_icmp .ge 34, 3) := by decide +kernel
theorem dX0_attackers_149 : decode cX0_attackers 149 = .ok (.aload_n 0, 1) := by decide +kernel
theorem dX0_attackers_150 : decode cX0_attackers 150 = .ok (.iload_n 1, 1) := by decide +kernel
theorem dX0_attackers_151 : decode cX0_attackers 151 = .ok (.getstatic 61, 3) := by decide +kernel
theorem dX0_attackers_154 : decode cX0_attackers 154 = .ok (.iload 6, 2) := by decide +kernel
theorem dX0_attackers_156 : decode cX0_attackers 156 = .ok (.iaload, 1) := by decide +kernel
theorem dX0_attackers_157 : decode cX0_attackers 157 = .ok (.iload_n 2, 1) := by decide +kernel
theorem dX0_attackers_158 : decode cX0_attackers 158 = .ok (.invokestatic 64, 3) := by decide +kernel
theorem dX0_attackers_161 : decode cX0_attackers 161 = .ok (.imul, 1) := by decide +kernel
theorem dX0_attackers_162 : decode cX0_attackers 162 = .ok (.isub, 1) := by decide +kernel
theorem dX0_attackers_163 : decode cX0_attackers 163 = .ok (.invokevirtual 42, 3) := by decide +kernel
theorem dX0_attackers_166 : decode cX0_attackers 166 = .ok (.iload 5, 2) := by decide +kernel
theorem dX0_attackers_168 : decode cX0_attackers 168 = .ok (.if_icmp .ne 6, 3) := by decide +kernel
theorem dX0_attackers_171 : decode cX0_attackers 171 = .ok (.iinc 3 1, 3) := by decide +kernel
theorem dX0_attackers_174 : decode cX0_attackers 174 = .ok (.iinc 6 1, 3) := by decide +kernel
theorem dX0_attackers_177 : decode cX0_attackers 177 = .ok (.goto (-37), 3) := by decide +kernel
theorem dX0_attackers_180 : decode cX0_attackers 180 = .ok (.iload_n 3, 1) := by decide +kernel
theorem dX0_attackers_181 : decode cX0_attackers 181 = .ok (.ireturn, 1) := by decide +kernel
theorem dX0_pieces_0 : decode cX0_pieces 0 = .ok (.iconst 0, 1) := by decide +kernel
theorem dX0_pieces_1 : decode cX0_pieces 1 = .ok (.istore_n 2, 1) := by decide +kernel
theorem dX0_pieces_2 : decode cX0_pieces 2 = .ok (.iconst 0, 1) := by decide +kernel
theorem dX0_pieces_3 : decode cX0_pieces 3 = .ok (.istore_n 3, 1) := by decide +kernel
theorem dX0_pieces_4 : decode cX0_pieces 4 = .ok (.iload_n 3, 1) := by decide +kernel
theorem dX0_pieces_5 : decode cX0_pieces 5 = .ok (.bipush 91, 2) := by decide +kernel
theorem dX0_pieces_7 : decode cX0_pieces 7 = .ok (.if_icmp .ge 27, 3) := by decide +kernel
theorem dX0_pieces_10 : decode cX0_pieces 10 = .ok (.aload_n 0, 1) := by decide +kernel
theorem dX0_pieces_11 : decode cX0_pieces 11 = .ok (.iload_n 3, 1) := by decide +kernel
theorem dX0_pieces_12 : decode cX0_pieces 12 = .ok (.invokestatic 31, 3) := by decide +kernel
theorem dX0_pieces_15 : decode cX0_pieces 15 = .ok (.invokevirtual 42, 3) := by decide +kernel
theorem dX0_pieces_18 : decode cX0_pieces 18 = .ok (.invokestatic 45, 3) := by decide +kernel
theorem dX0_pieces_21 : decode cX0_pieces 21 = .ok (.iload_n 1, 1) := by decide +kernel
theorem dX0_pieces_22 : decode cX0_pieces 22 = .ok (.if_icmp .ne 6, 3) := by decide +kernel
theorem dX0_pieces_25 : decode cX0_pieces 25 = .ok (.iinc 2 1, 3) := by decide +kernel
theorem dX0_pieces_28 : decode cX0_pieces 28 = .ok (.iinc 3 1, 3) := by decide +kernel
theorem dX0_pieces_31 : decode cX0_pieces 31 = .ok (.goto (-27), 3) := by decide +kernel
theorem dX0_pieces_34 : decode cX0_pieces 34 = .ok (.iload_n 2, 1) := by decide +kernel
theorem dX0_pieces_35 : decode cX0_pieces 35 = .ok (.ireturn, 1) := by decide +kernel
theorem dX0_worth_0 : decode cX0_worth 0 = .ok (.iconst 0, 1) := by decide +kernel
theorem dX0_worth_1 : decode cX0_worth 1 = .ok (.istore_n 2, 1) := by decide +kernel
theorem dX0_worth_2 : decode cX0_worth 2 = .ok (.iconst 0, 1) := by decide +kernel
theorem dX0_worth_3 : decode cX0_worth 3 = .ok (.istore_n 3, 1) := by decide +kernel
theorem dX0_worth_4 : decode cX0_worth 4 = .ok (.iload_n 3, 1) := by decide +kernel
theorem dX0_worth_5 : decode cX0_worth 5 = .ok (.bipush 91, 2) := by decide +kernel
theorem dX0_worth_7 : decode cX0_worth 7 = .ok (.if_icmp .ge 39, 3) := by decide +kernel
theorem dX0_worth_10 : decode cX0_worth 10 = .ok (.aload_n 0, 1) := by decide +kernel
theorem dX0_worth_11 : decode cX0_worth 11 = .ok (.iload_n 3, 1) := by decide +kernel
theorem dX0_worth_12 : decode cX0_worth 12 = .ok (.invokestatic 31, 3) := by decide +kernel
theorem dX0_worth_15 : decode cX0_worth 15 = .ok (.invokevirtual 42, 3) := by decide +kernel
theorem dX0_worth_18 : decode cX0_worth 18 = .ok (.istore 4, 2) := by decide +kernel
theorem dX0_worth_20 : decode cX0_worth 20 = .ok (.iload 4, 2) := by decide +kernel
theorem dX0_worth_22 : decode cX0_worth 22 = .ok (.invokestatic 45, 3) := by decide +kernel
theorem dX0_worth_25 : decode cX0_worth 25 = .ok (.iload_n 1, 1) := by decide +kernel
theorem dX0_worth_26 : decode cX0_worth 26 = .ok (.if_icmp .ne 14, 3) := by decide +kernel
theorem dX0_worth_29 : decode cX0_worth 29 = .ok (.iload_n 2, 1) := by decide +kernel
theorem dX0_worth_30 : decode cX0_worth 30 = .ok (.iload 4, 2) := by decide +kernel
theorem dX0_worth_32 : decode cX0_worth 32 = .ok (.invokestatic 48, 3) := by decide +kernel
theorem dX0_worth_35 : decode cX0_worth 35 = .ok (.invokestatic 67, 3) := by decide +kernel
theorem dX0_worth_38 : decode cX0_worth 38 = .ok (.iadd, 1) := by decide +kernel
theorem dX0_worth_39 : decode cX0_worth 39 = .ok (.istore_n 2, 1) := by decide +kernel
theorem dX0_worth_40 : decode cX0_worth 40 = .ok (.iinc 3 1, 3) := by decide +kernel
theorem dX0_worth_43 : decode cX0_worth 43 = .ok (.goto (-39), 3) := by decide +kernel
theorem dX0_worth_46 : decode cX0_worth 46 = .ok (.iload_n 2, 1) := by decide +kernel
theorem dX0_worth_47 : decode cX0_worth 47 = .ok (.ireturn, 1) := by decide +kernel
theorem dX0_setUp_0 : decode cX0_setUp 0 = .ok (.aload_n 0, 1) := by decide +kernel
theorem dX0_setUp_1 : decode cX0_setUp 1 = .ok (.invokevirtual 22, 3) := by decide +kernel
theorem dX0_setUp_4 : decode cX0_setUp 4 = .ok (.iconst 0, 1) := by decide +kernel
theorem dX0_setUp_5 : decode cX0_setUp 5 = .ok (.istore_n 1, 1) := by decide +kernel
theorem dX0_setUp_6 : decode cX0_setUp 6 = .ok (.iload_n 1, 1) := by decide +kernel
theorem dX0_setUp_7 : decode cX0_setUp 7 = .ok (.bipush 91, 2) := by decide +kernel
theorem dX0_setUp_9 : decode cX0_setUp 9 = .ok (.if_icmp .ge 52, 3) := by decide +kernel
theorem dX0_setUp_12 : decode cX0_setUp 12 = .ok (.iload_n 1, 1) := by decide +kernel
theorem dX0_setUp_13 : decode cX0_setUp 13 = .ok (.invokestatic 31, 3) := by decide +kernel
theorem dX0_setUp_16 : decode cX0_setUp 16 = .ok (.istore_n 2, 1) := by decide +kernel
theorem dX0_setUp_17 : decode cX0_setUp 17 = .ok (.iload_n 2, 1) := by decide +kernel
theorem dX0_setUp_18 : decode cX0_setUp 18 = .ok (.iconst 0, 1) := by decide +kernel
theorem dX0_setUp_19 : decode cX0_setUp 19 = .ok (.invokestatic 70, 3) := by decide +kernel
theorem dX0_setUp_22 : decode cX0_setUp 22 = .ok (.ifCond .eq 14, 3) := by decide +kernel
theorem dX0_setUp_25 : decode cX0_setUp 25 = .ok (.aload_n 0, 1) := by decide +kernel
theorem dX0_setUp_26 : decode cX0_setUp 26 = .ok (.iload_n 2, 1) := by decide +kernel
theorem dX0_setUp_27 : decode cX0_setUp 27 = .ok (.iconst 0, 1) := by decide +kernel
theorem dX0_setUp_28 : decode cX0_setUp 28 = .ok (.bipush 6, 2) := by decide +kernel
theorem dX0_setUp_30 : decode cX0_setUp 30 = .ok (.invokestatic 55, 3) := by decide +kernel
theorem dX0_setUp_33 : decode cX0_setUp 33 = .ok (.invokevirtual 74, 3) := by decide +kernel
theorem dX0_setUp_36 : decode cX0_setUp 36 = .ok (.iload_n 2, 1) := by decide +kernel
theorem dX0_setUp_37 : decode cX0_setUp 37 = .ok (.iconst 1, 1) := by decide +kernel
theorem dX0_setUp_38 : decode cX0_setUp 38 = .ok (.invokestatic 70, 3) := by decide +kernel
theorem dX0_setUp_41 : decode cX0_setUp 41 = .ok (.ifCond .eq 14, 3) := by decide +kernel
theorem dX0_setUp_44 : decode cX0_setUp 44 = .ok (.aload_n 0, 1) := by decide +kernel
theorem dX0_setUp_45 : decode cX0_setUp 45 = .ok (.iload_n 2, 1) := by decide +kernel
theorem dX0_setUp_46 : decode cX0_setUp 46 = .ok (.iconst 1, 1) := by decide +kernel
theorem dX0_setUp_47 : decode cX0_setUp 47 = .ok (.bipush 6, 2) := by decide +kernel
theorem dX0_setUp_49 : decode cX0_setUp 49 = .ok (.invokestatic 55, 3) := by decide +kernel
theorem dX0_setUp_52 : decode cX0_setUp 52 = .ok (.invokevirtual 74, 3) := by decide +kernel
theorem dX0_setUp_55 : decode cX0_setUp 55 = .ok (.iinc 1 1, 3) := by decide +kernel
theorem dX0_setUp_58 : decode cX0_setUp 58 = .ok (.goto (-52), 3) := by decide +kernel
theorem dX0_setUp_61 : decode cX0_setUp 61 = .ok (.aload_n 0, 1) := by decide +kernel
theorem dX0_setUp_62 : decode cX0_setUp 62 = .ok (.iconst 3, 1) := by decide +kernel
theorem dX0_setUp_63 : decode cX0_setUp 63 = .ok (.iconst 2, 1) := by decide +kernel
theorem dX0_setUp_64 : decode cX0_setUp 64 = .ok (.iconst 1, 1) := by decide +kernel
theorem dX0_setUp_65 : decode cX0_setUp 65 = .ok (.invokevirtual 78, 3) := by decide +kernel
theorem dX0_setUp_68 : decode cX0_setUp 68 = .ok (.aload_n 0, 1) := by decide +kernel
theorem dX0_setUp_69 : decode cX0_setUp 69 = .ok (.iconst 5, 1) := by decide +kernel
theorem dX0_setUp_70 : decode cX0_setUp 70 = .ok (.iconst 3, 1) := by decide +kernel
theorem dX0_setUp_71 : decode cX0_setUp 71 = .ok (.iconst 1, 1) := by decide +kernel
theorem dX0_setUp_72 : decode cX0_setUp 72 = .ok (.invokevirtual 78, 3) := by decide +kernel
theorem dX0_setUp_75 : decode cX0_setUp 75 = .ok (.aload_n 0, 1) := by decide +kernel
theorem dX0_setUp_76 : decode cX0_setUp 76 = .ok (.iconst 2, 1) := by decide +kernel
theorem dX0_setUp_77 : decode cX0_setUp 77 = .ok (.iconst 4, 1) := by decide +kernel
theorem dX0_setUp_78 : decode cX0_setUp 78 = .ok (.iconst 1, 1) := by decide +kernel
theorem dX0_setUp_79 : decode cX0_setUp 79 = .ok (.invokevirtual 78, 3) := by decide +kernel
theorem dX0_setUp_82 : decode cX0_setUp 82 = .ok (.aload_n 0, 1) := by decide +kernel
theorem dX0_setUp_83 : decode cX0_setUp 83 = .ok (.iconst 4, 1) := by decide +kernel
theorem dX0_setUp_84 : decode cX0_setUp 84 = .ok (.iconst 5, 1) := by decide +kernel
theorem dX0_setUp_85 : decode cX0_setUp 85 = .ok (.iconst 1, 1) := by decide +kernel
theorem dX0_setUp_86 : decode cX0_setUp 86 = .ok (.invokevirtual 78, 3) := by decide +kernel
theorem dX0_setUp_89 : decode cX0_setUp 89 = .ok (.aload_n 0, 1) := by decide +kernel
theorem dX0_setUp_90 : decode cX0_setUp 90 = .ok (.iconst 4, 1) := by decide +kernel
theorem dX0_setUp_91 : decode cX0_setUp 91 = .ok (.iconst 5, 1) := by decide +kernel
theorem dX0_setUp_92 : decode cX0_setUp 92 = .ok (.iconst 2, 1) := by decide +kernel
theorem dX0_setUp_93 : decode cX0_setUp 93 = .ok (.invokevirtual 78, 3) := by decide +kernel
theorem dX0_setUp_96 : decode cX0_setUp 96 = .ok (.aload_n 0, 1) := by decide +kernel
theorem dX0_setUp_97 : decode cX0_setUp 97 = .ok (.iconst 4, 1) := by decide +kernel
theorem dX0_setUp_98 : decode cX0_setUp 98 = .ok (.iconst 5, 1) := by decide +kernel
theorem dX0_setUp_99 : decode cX0_setUp 99 = .ok (.iconst 3, 1) := by decide +kernel
theorem dX0_setUp_100 : decode cX0_setUp 100 = .ok (.invokevirtual 78, 3) := by decide +kernel
theorem dX0_setUp_103 : decode cX0_setUp 103 = .ok (.aload_n 0, 1) := by decide +kernel
theorem dX0_setUp_104 : decode cX0_setUp 104 = .ok (.iconst 1, 1) := by decide +kernel
theorem dX0_setUp_105 : decode cX0_setUp 105 = .ok (.bipush 6, 2) := by decide +kernel
theorem dX0_setUp_107 : decode cX0_setUp 107 = .ok (.iconst 1, 1) := by decide +kernel
theorem dX0_setUp_108 : decode cX0_setUp 108 = .ok (.invokevirtual 78, 3) := by decide +kernel
theorem dX0_setUp_111 : decode cX0_setUp 111 = .ok (.aload_n 0, 1) := by decide +kernel
theorem dX0_setUp_112 : decode cX0_setUp 112 = .ok (.iconst 5, 1) := by decide +kernel
theorem dX0_setUp_113 : decode cX0_setUp 113 = .ok (.bipush 7, 2) := by decide +kernel
theorem dX0_setUp_115 : decode cX0_setUp 115 = .ok (.iconst 1, 1) := by decide +kernel
theorem dX0_setUp_116 : decode cX0_setUp 116 = .ok (.invokevirtual 78, 3) := by decide +kernel
theorem dX0_setUp_119 : decode cX0_setUp 119 = .ok (.aload_n 0, 1) := by decide +kernel
theorem dX0_setUp_120 : decode cX0_setUp 120 = .ok (.iconst 3, 1) := by decide +kernel
theorem dX0_setUp_121 : decode cX0_setUp 121 = .ok (.bipush 8, 2) := by decide +kernel
theorem dX0_setUp_123 : decode cX0_setUp 123 = .ok (.iconst 1, 1) := by decide +kernel
theorem dX0_setUp_124 : decode cX0_setUp 124 = .ok (.invokevirtual 78, 3) := by decide +kernel
theorem dX0_setUp_127 : decode cX0_setUp 127 = .ok (.return_, 1) := by decide +kernel
theorem dX0_setBoth_0 : decode cX0_setBoth 0 = .ok (.iload_n 2, 1) := by decide +kernel
theorem dX0_setBoth_1 : decode cX0_setBoth 1 = .ok (.invokestatic 82, 3) := by decide +kernel
theorem dX0_setBoth_4 : decode cX0_setBoth 4 = .ok (.iconst 1, 1) := by decide +kernel
theorem dX0_setBoth_5 : decode cX0_setBoth 5 = .ok (.iadd, 1) := by decide +kernel
theorem dX0_setBoth_6 : decode cX0_setBoth 6 = .ok (.iload_n 3, 1) := by decide +kernel
theorem dX0_setBoth_7 : decode cX0_setBoth 7 = .ok (.isub, 1) := by decide +kernel
theorem dX0_setBoth_8 : decode cX0_setBoth 8 = .ok (.istore 4, 2) := by decide +kernel
theorem dX0_setBoth_10 : decode cX0_setBoth 10 = .ok (.aload_n 0, 1) := by decide +kernel
theorem dX0_setBoth_11 : decode cX0_setBoth 11 = .ok (.iload_n 2, 1) := by decide +kernel
theorem dX0_setBoth_12 : decode cX0_setBoth 12 = .ok (.iload_n 3, 1) := by decide +kernel
theorem dX0_setBoth_13 : decode cX0_setBoth 13 = .ok (.invokestatic 85, 3) := by decide +kernel
theorem dX0_setBoth_16 : decode cX0_setBoth 16 = .ok (.invokestatic 31, 3) := by decide +kernel
theorem dX0_setBoth_19 : decode cX0_setBoth 19 = .ok (.iconst 0, 1) := by decide +kernel
theorem dX0_setBoth_20 : decode cX0_setBoth 20 = .ok (.iload_n 1, 1) := by decide +kernel
theorem dX0_setBoth_21 : decode cX0_setBoth 21 = .ok (.invokestatic 55, 3) := by decide +kernel
theorem dX0_setBoth_24 : decode cX0_setBoth 24 = .ok (.invokevirtual 74, 3) := by decide +kernel
theorem dX0_setBoth_27 : decode cX0_setBoth 27 = .ok (.aload_n 0, 1) := by decide +kernel
theorem dX0_setBoth_28 : decode cX0_setBoth 28 = .ok (.iload_n 2, 1) := by decide +kernel
theorem dX0_setBoth_29 : decode cX0_setBoth 29 = .ok (.iload 4, 2) := by decide +kernel
theorem dX0_setBoth_31 : decode cX0_setBoth 31 = .ok (.invokestatic 85, 3) := by decide +kernel
theorem dX0_setBoth_34 : decode cX0_setBoth 34 = .ok (.invokestatic 31, 3) := by decide +kernel
theorem dX0_setBoth_37 : decode cX0_setBoth 37 = .ok (.iconst 1, 1) := by decide +kernel
theorem dX0_setBoth_38 : decode cX0_setBoth 38 = .ok (.iload_n 1, 1) := by decide +kernel
theorem dX0_setBoth_39 : decode cX0_setBoth 39 = .ok (.invokestatic 55, 3) := by decide +kernel
theorem dX0_setBoth_42 : decode cX0_setBoth 42 = .ok (.invokevirtual 74, 3) := by decide +kernel
theorem dX0_setBoth_45 : decode cX0_setBoth 45 = .ok (.return_, 1) := by decide +kernel
theorem dX1_init_0 : decode cX1_init 0 = .ok (.aload_n 0, 1) := by decide +kernel
theorem dX1_init_1 : decode cX1_init 1 = .ok (.invokespecial 3, 3) := by decide +kernel
theorem dX1_init_4 : decode cX1_init 4 = .ok (.aload_n 0, 1) := by decide +kernel
theorem dX1_init_5 : decode cX1_init 5 = .ok (.new 9, 3) := by decide +kernel
theorem dX1_init_8 : decode cX1_init 8 = .ok (.dup, 1) := by decide +kernel
theorem dX1_init_9 : decode cX1_init 9 = .ok (.invokespecial 11, 3) := by decide +kernel
theorem dX1_init_12 : decode cX1_init 12 = .ok (.putfield 12, 3) := by decide +kernel
theorem dX1_init_15 : decode cX1_init 15 = .ok (.aload_n 0, 1) := by decide +kernel
theorem dX1_init_16 : decode cX1_init 16 = .ok (.iconst 0, 1) := by decide +kernel
theorem dX1_init_17 : decode cX1_init 17 = .ok (.putfield 18, 3) := by decide +kernel
theorem dX1_init_20 : decode cX1_init 20 = .ok (.aload_n 0, 1) := by decide +kernel
theorem dX1_init_21 : decode cX1_init 21 = .ok (.iconst 0, 1) := by decide +kernel
theorem dX1_init_22 : decode cX1_init 22 = .ok (.putfield 22, 3) := by decide +kernel
theorem dX1_init_25 : decode cX1_init 25 = .ok (.aload_n 0, 1) := by decide +kernel
theorem dX1_init_26 : decode cX1_init 26 = .ok (.iconst (-1), 1) := by decide +kernel
theorem dX1_init_27 : decode cX1_init 27 = .ok (.putfield 25, 3) := by decide +kernel
theorem dX1_init_30 : decode cX1_init 30 = .ok (.aload_n 0, 1) := by decide +kernel
theorem dX1_init_31 : decode cX1_init 31 = .ok (.sipush 620, 3) := by decide +kernel
theorem dX1_init_34 : decode cX1_init 34 = .ok (.newarray .long, 2) := by decide +kernel
theorem dX1_init_36 : decode cX1_init 36 = .ok (.putfield 28, 3) := by decide +kernel
theorem dX1_init_39 : decode cX1_init 39 = .ok (.aload_n 0, 1) := by decide +kernel
theorem dX1_init_40 : decode cX1_init 40 = .ok (.iconst 0, 1) := by decide +kernel
theorem dX1_init_41 : decode cX1_init 41 = .ok (.putfield 32, 3) := by decide +kernel
theorem dX1_init_44 : decode cX1_init 44 = .ok (.aload_n 0, 1) := by decide +kernel
theorem dX1_init_45 : decode cX1_init 45 = .ok (.sipush 840, 3) := by decide +kernel
theorem dX1_init_48 : decode cX1_init 48 = .ok (.newarray .int, 2) := by decide +kernel
theorem dX1_init_50 : decode cX1_init 50 = .ok (.putfield 35, 3) := by decide +kernel
theorem dX1_init_53 : decode cX1_init 53 = .ok (.aload_n 0, 1) := by decide +kernel
theorem dX1_init_54 : decode cX1_init 54 = .ok (.iconst 0, 1) := by decide +kernel
theorem dX1_init_55 : decode cX1_init 55 = .ok (.putfield 39, 3) := by decide +kernel
theorem dX1_init_58 : decode cX1_init 58 = .ok (.aload_n 0, 1) := by decide +kernel
theorem dX1_init_59 : decode cX1_init 59 = .ok (.iconst 0, 1) := by decide +kernel
theorem dX1_init_60 : decode cX1_init 60 = .ok (.putfield 42, 3) := by decide +kernel
theorem dX1_init_63 : decode cX1_init 63 = .ok (.aload_n 0, 1) := by decide +kernel
theorem dX1_init_64 : decode cX1_init 64 = .ok (.bipush 42, 2) := by decide +kernel
theorem dX1_init_66 : decode cX1_init 66 = .ok (.newarray .int, 2) := by decide +kernel
theorem dX1_init_68 : decode cX1_init 68 = .ok (.putfield 46, 3) := by decide +kernel
theorem dX1_init_71 : decode cX1_init 71 = .ok (.aload_n 0, 1) := by decide +kernel
theorem dX1_init_72 : decode cX1_init 72 = .ok (.iconst 0, 1) := by decide +kernel
theorem dX1_init_73 : decode cX1_init 73 = .ok (.putfield 49, 3) := by decide +kernel
theorem dX1_init_76 : decode cX1_init 76 = .ok (.aload_n 0, 1) := by decide +kernel
theorem dX1_init_77 : decode cX1_init 77 = .ok (.getstatic 52, 3) := by decide +kernel
theorem dX1_init_80 : decode cX1_init 80 = .ok (.arraylength, 1) := by decide +kernel
theorem dX1_init_81 : decode cX1_init 81 = .ok (.newarray .int, 2) := by decide +kernel
theorem dX1_init_83 : decode cX1_init 83 = .ok (.putfield 55, 3) := by decide +kernel
theorem dX1_init_86 : decode cX1_init 86 = .ok (.aload_n 0, 1) := by decide +kernel
theorem dX1_init_87 : decode cX1_init 87 = .ok (.iconst 0, 1) := by decide +kernel
theorem dX1_init_88 : decode cX1_init 88 = .ok (.putfield 58, 3) := by decide +kernel
theorem dX1_init_91 : decode cX1_init 91 = .ok (.aload_n 0, 1) := by decide +kernel
theorem dX1_init_92 : decode cX1_init 92 = .ok (.iconst 0, 1) := by decide +kernel
theorem dX1_init_93 : decode cX1_init 93 = .ok (.putfield 61, 3) := by decide +kernel
theorem dX1_init_96 : decode cX1_init 96 = .ok (.return_, 1) := by decide +kernel
theorem dX1_clear_0 : decode cX1_clear 0 = .ok (.aload_n 0, 1) := by decide +kernel
theorem dX1_clear_1 : decode cX1_clear 1 = .ok (.getfield 12, 3) := by decide +kernel
theorem dX1_clear_4 : decode cX1_clear 4 = .ok (.invokevirtual 64, 3) := by decide +kernel
theorem dX1_clear_7 : decode cX1_clear 7 = .ok (.aload_n 0, 1) := by decide +kernel
theorem dX1_clear_8 : decode cX1_clear 8 = .ok (.iconst 0, 1) := by decide +kernel
theorem dX1_clear_9 : decode cX1_clear 9 = .ok (.putfield 18, 3) := by decide +kernel
theorem dX1_clear_12 : decode cX1_clear 12 = .ok (.aload_n 0, 1) := by decide +kernel
theorem dX1_clear_13 : decode cX1_clear 13 = .ok (.invokevirtual 67, 3) := by decide +kernel
theorem dX1_clear_16 : decode cX1_clear 16 = .ok (.return_, 1) := by decide +kernel
theorem dX1_setUp_0 : decode cX1_setUp 0 = .ok (.aload_n 0, 1) := by decide +kernel
theorem dX1_setUp_1 : decode cX1_setUp 1 = .ok (.getfield 12, 3) := by decide +kernel
theorem dX1_setUp_4 : decode cX1_setUp 4 = .ok (.invokevirtual 70, 3) := by decide +kernel
theorem dX1_setUp_7 : decode cX1_setUp 7 = .ok (.aload_n 0, 1) := by decide +kernel
theorem dX1_setUp_8 : decode cX1_setUp 8 = .ok (.iconst 0, 1) := by decide +kernel
theorem dX1_setUp_9 : decode cX1_setUp 9 = .ok (.putfield 18, 3) := by decide +kernel
theorem dX1_setUp_12 : decode cX1_setUp 12 = .ok (.aload_n 0, 1) := by decide +kernel
theorem dX1_setUp_13 : decode cX1_setUp 13 = .ok (.invokevirtual 67, 3) := by decide +kernel
theorem dX1_setUp_16 : decode cX1_setUp 16 = .ok (.return_, 1) := by decide +kernel
theorem dX1_put_0 : decode cX1_put 0 = .ok (.aload_n 0, 1) := by decide +kernel
theorem dX1_put_1 : decode cX1_put 1 = .ok (.getfield 12, 3) := by decide +kernel
theorem dX1_put_4 : decode cX1_put 4 = .ok (.iload_n 3, 1) := by decide +kernel
theorem dX1_put_5 : decode cX1_put 5 = .ok (.invokestatic 73, 3) := by decide +kernel
theorem dX1_put_8 : decode cX1_put 8 = .ok (.iload_n 1, 1) := by decide +kernel
theorem dX1_put_9 : decode cX1_put 9 = .ok (.iload_n 2, 1) := by decide +kernel
theorem dX1_put_10 : decode cX1_put 10 = .ok (.invokestatic 77, 3) := by decide +kernel
theorem dX1_put_13 : decode cX1_put 13 = .ok (.invokevirtual 81, 3) := by decide +kernel
theorem dX1_put_16 : decode cX1_put 16 = .ok (.aload_n 0, 1) := by decide +kernel
theorem dX1_put_17 : decode cX1_put 17 = .ok (.invokevirtual 67, 3) := by decide +kernel
theorem dX1_put_20 : decode cX1_put 20 = .ok (.return_, 1) := by decide +kernel
theorem dX1_giveTurn_0 : decode cX1_giveTurn 0 = .ok (.aload_n 0, 1) := by decide +kernel
theorem dX1_giveTurn_1 : decode cX1_giveTurn 1 = .ok (.iload_n 1, 1) := by decide +kernel
theorem dX1_giveTurn_2 : decode cX1_giveTurn 2 = .ok (.putfield 18, 3) := by decide +kernel
theorem dX1_giveTurn_5 : decode cX1_giveTurn 5 = .ok (.aload_n 0, 1) := by decide +kernel
theorem dX1_giveTurn_6 : decode cX1_giveTurn 6 = .ok (.invokevirtual 67, 3) := by decide +kernel
theorem dX1_giveTurn_9 : decode cX1_giveTurn 9 = .ok (.return_, 1) := by decide +kernel
theorem dX1_startAnew_0 : decode cX1_startAnew 0 = .ok (.aload_n 0, 1) := by decide +kernel
theorem dX1_startAnew_1 : decode cX1_startAnew 1 = .ok (.iconst 0, 1) := by decide +kernel
theorem dX1_startAnew_2 : decode cX1_startAnew 2 = .ok (.putfield 22, 3) := by decide +kernel
theorem dX1_startAnew_5 : decode cX1_startAnew 5 = .ok (.aload_n 0, 1) := by decide +kernel
theorem dX1_startAnew_6 : decode cX1_startAnew 6 = .ok (.iconst (-1), 1) := by decide +kernel
theorem dX1_startAnew_7 : decode cX1_startAnew 7 = .ok (.putfield 25, 3) := by decide +kernel
theorem dX1_startAnew_10 : decode cX1_startAnew 10 = .ok (.aload_n 0, 1) := by decide +kernel
theorem dX1_startAnew_11 : decode cX1_startAnew 11 = .ok (.iconst 0, 1) := by decide +kernel
theorem dX1_startAnew_12 : decode cX1_startAnew 12 = .ok (.putfield 32, 3) := by decide +kernel
theorem dX1_startAnew_15 : decode cX1_startAnew 15 = .ok (.aload_n 0, 1) := by decide +kernel
theorem dX1_startAnew_16 : decode cX1_startAnew 16 = .ok (.iconst 0, 1) := by decide +kernel
theorem dX1_startAnew_17 : decode cX1_startAnew 17 = .ok (.putfield 42, 3) := by decide +kernel
theorem dX1_startAnew_20 : decode cX1_startAnew 20 = .ok (.return_, 1) := by decide +kernel
theorem dX1_valueOn_0 : decode cX1_valueOn 0 = .ok (.aload_n 0, 1) := by decide +kernel
theorem dX1_valueOn_1 : decode cX1_valueOn 1 = .ok (.getfield 12, 3) := by decide +kernel
theorem dX1_valueOn_4 : decode cX1_valueOn 4 = .ok (.iload_n 1, 1) := by decide +kernel
theorem dX1_valueOn_5 : decode cX1_valueOn 5 = .ok (.invokestatic 73, 3) := by decide +kernel
theorem dX1_valueOn_8 : decode cX1_valueOn 8 = .ok (.invokevirtual 85, 3) := by decide +kernel
theorem dX1_valueOn_11 : decode cX1_valueOn 11 = .ok (.ireturn, 1) := by decide +kernel
theorem dX1_attackersOf_0 : decode cX1_attackersOf 0 = .ok (.aload_n 0, 1) := by decide +kernel
theorem dX1_attackersOf_1 : decode cX1_attackersOf 1 = .ok (.getfield 12, 3) := by decide +kernel
theorem dX1_attackersOf_4 : decode cX1_attackersOf 4 = .ok (.iload_n 1, 1) := by decide +kernel
theorem dX1_attackersOf_5 : decode cX1_attackersOf 5 = .ok (.invokestatic 73, 3) := by decide +kernel
theorem dX1_attackersOf_8 : decode cX1_attackersOf 8 = .ok (.iload_n 2, 1) := by decide +kernel
theorem dX1_attackersOf_9 : decode cX1_attackersOf 9 = .ok (.invokevirtual 88, 3) := by decide +kernel
theorem dX1_attackersOf_12 : decode cX1_attackersOf 12 = .ok (.ireturn, 1) := by decide +kernel
theorem dX1_hasKing_0 : decode cX1_hasKing 0 = .ok (.aload_n 0, 1) := by decide +kernel
theorem dX1_hasKing_1 : decode cX1_hasKing 1 = .ok (.getfield 12, 3) := by decide +kernel
theorem dX1_hasKing_4 : decode cX1_hasKing 4 = .ok (.iload_n 1, 1) := by decide +kernel
theorem dX1_hasKing_5 : decode cX1_hasKing 5 = .ok (.invokevirtual 91, 3) := by decide +kernel
theorem dX1_hasKing_8 : decode cX1_hasKing 8 = .ok (.iconst (-1), 1) := by decide +kernel
theorem dX1_hasKing_9 : decode cX1_hasKing 9 = .ok (.if_icmp .eq 7, 3) := by decide +kernel
theorem dX1_hasKing_12 : decode cX1_hasKing 12 = .ok (.iconst 1, 1) := by decide +kernel
theorem dX1_hasKing_13 : decode cX1_hasKing 13 = .ok (.goto 4, 3) := by decide +kernel
theorem dX1_hasKing_16 : decode cX1_hasKing 16 = .ok (.iconst 0, 1) := by decide +kernel
theorem dX1_hasKing_17 : decode cX1_hasKing 17 = .ok (.ireturn, 1) := by decide +kernel
theorem dX1_passingCell_0 : decode cX1_passingCell 0 = .ok (.aload_n 0, 1) := by decide +kernel
theorem dX1_passingCell_1 : decode cX1_passingCell 1 = .ok (.getfield 25, 3) := by decide +kernel
theorem dX1_passingCell_4 : decode cX1_passingCell 4 = .ok (.invokestatic 94, 3) := by decide +kernel
theorem dX1_passingCell_7 : decode cX1_passingCell 7 = .ok (.ireturn, 1) := by decide +kernel
theorem dX1_isPlayable_0 : decode cX1_isPlayable 0 = .ok (.aload_n 0, 1) := by decide +kernel
theorem dX1_isPlayable_1 : decode cX1_isPlayable 1 = .ok (.iconst 0, 1) := by decide +kernel
theorem dX1_isPlayable_2 : decode cX1_isPlayable 2 = .ok (.invokevirtual 97, 3) := by decide +kernel
theorem dX1_isPlayable_5 : decode cX1_isPlayable 5 = .ok (.ifCond .eq 42, 3) := by decide +kernel
theorem dX1_isPlayable_8 : decode cX1_isPlayable 8 = .ok (.aload_n 0, 1) := by decide +kernel
theorem dX1_isPlayable_9 : decode cX1_isPlayable 9 = .ok (.iconst 1, 1) := by decide +kernel
theorem dX1_isPlayable_10 : decode cX1_isPlayable 10 = .ok (.invokevirtual 97, 3) := by decide +kernel
theorem dX1_isPlayable_13 : decode cX1_isPlayable 13 = .ok (.ifCond .eq 34, 3) := by decide +kernel
theorem dX1_isPlayable_16 : decode cX1_isPlayable 16 = .ok (.aload_n 0, 1) := by decide +kernel
theorem dX1_isPlayable_17 : decode cX1_isPlayable 17 = .ok (.getfield 12, 3) := by decide +kernel
theorem dX1_isPlayable_20 : decode cX1_isPlayable 20 = .ok (.aload_n 0, 1) := by decide +kernel
theorem dX1_isPlayable_21 : decode cX1_isPlayable 21 = .ok (.getfield 12, 3) := by decide +kernel
theorem dX1_isPlayable_24 : decode cX1_isPlayable 24 = .ok (.iconst 1, 1) := by decide +kernel
theorem dX1_isPlayable_25 : decode cX1_isPlayable 25 = .ok (.aload_n 0, 1) := by decide +kernel
theorem dX1_isPlayable_26 : decode cX1_isPlayable 26 = .ok (.getfield 18, 3) := by decide +kernel
theorem dX1_isPlayable_29 : decode cX1_isPlayable 29 = .ok (.isub, 1) := by decide +kernel
theorem dX1_isPlayable_30 : decode cX1_isPlayable 30 = .ok (.invokevirtual 91, 3) := by decide +kernel
theorem dX1_isPlayable_33 : decode cX1_isPlayable 33 = .ok (.aload_n 0, 1) := by decide +kernel
theorem dX1_isPlayable_34 : decode cX1_isPlayable 34 = .ok (.getfield 18, 3) := by decide +kernel
theorem dX1_isPlayable_37 : decode cX1_isPlayable 37 = .ok (.invokevirtual 88, 3) := by decide +kernel
theorem dX1_isPlayable_40 : decode cX1_isPlayable 40 = .ok (.ifCond .ne 7, 3) := by decide +kernel
theorem dX1_isPlayable_43 : decode cX1_isPlayable 43 = .ok (.iconst 1, 1) := by decide +kernel
theorem dX1_isPlayable_44 : decode cX1_isPlayable 44 = .ok (.goto 4, 3) := by decide +kernel
theorem dX1_isPlayable_47 : decode cX1_isPlayable 47 = .ok (.iconst 0, 1) := by decide +kernel
theorem dX1_isPlayable_48 : decode cX1_isPlayable 48 = .ok (.ireturn, 1) := by decide +kernel
theorem dX1_isAttacked_0 : decode cX1_isAttacked 0 = .ok (.aload_n 0, 1) := by decide +kernel
theorem dX1_isAttacked_1 : decode cX1_isAttacked 1 = .ok (.getfield 12, 3) := by decide +kernel
theorem dX1_isAttacked_4 : decode cX1_isAttacked 4 = .ok (.aload_n 0, 1) := by decide +kernel
theorem dX1_isAttacked_5 : decode cX1_isAttacked 5 = .ok (.getfield 12, 3) := by decide +kernel
theorem dX1_isAttacked_8 : decode cX1_isAttacked 8 = .ok (.iload_n 1, 1) := by decide +kernel
theorem dX1_isAttacked_9 : decode cX1_isAttacked 9 = .ok (.invokevirtual 91, 3) := by decide +kernel
theorem dX1_isAttacked_12 : decode cX1_isAttacked 12 = .ok (.iconst 1, 1) := by decide +kernel
theorem dX1_isAttacked_13 : decode cX1_isAttacked 13 = .ok (.iload_n 1, 1) := by decide +kernel
theorem dX1_isAttacked_14 : decode cX1_isAttacked 14 = .ok (.isub, 1) := by decide +kernel
theorem dX1_isAttacked_15 : decode cX1_isAttacked 15 = .ok (.invokevirtual 88, 3) := by decide +kernel
theorem dX1_isAttacked_18 : decode cX1_isAttacked 18 = .ok (.ifCond .le 7, 3) := by decide +kernel
theorem dX1_isAttacked_21 : decode cX1_isAttacked 21 = .ok (.iconst 1, 1) := by decide +kernel
theorem dX1_isAttacked_22 : decode cX1_isAttacked 22 = .ok (.goto 4, 3) := by decide +kernel
theorem dX1_isAttacked_25 : decode cX1_isAttacked 25 = .ok (.iconst 0, 1) := by decide +kernel
theorem dX1_isAttacked_26 : decode cX1_isAttacked 26 = .ok (.ireturn, 1) := by decide +kernel
theorem dX1_howItIs_0 : decode cX1_howItIs 0 = .ok (.aload_n 0, 1) := by decide +kernel
theorem dX1_howItIs_1 : decode cX1_howItIs 1 = .ok (.invokevirtual 101, 3) := by decide +kernel
theorem dX1_howItIs_4 : decode cX1_howItIs 4 = .ok (.ifCond .ne 5, 3) := by decide +kernel
theorem dX1_howItIs_7 : decode cX1_howItIs 7 = .ok (.iconst 5, 1) := by decide +kernel
theorem dX1_howItIs_8 : decode cX1_howItIs 8 = .ok (.ireturn, 1) := by decide +kernel
theorem dX1_howItIs_9 : decode cX1_howItIs 9 = .ok (.aload_n 0, 1) := by decide +kernel
theorem dX1_howItIs_10 : decode cX1_howItIs 10 = .ok (.invokevirtual 105, 3) := by decide +kernel
theorem dX1_howItIs_13 : decode cX1_howItIs 13 = .ok (.aload_n 0, 1) := by decide +kernel
theorem dX1_howItIs_14 : decode cX1_howItIs 14 = .ok (.aload_n 0, 1) := by decide +kernel
theorem dX1_howItIs_15 : decode cX1_howItIs 15 = .ok (.getfield 18, 3) := by decide +kernel
theorem dX1_howItIs_18 : decode cX1_howItIs 18 = .ok (.invokevirtual 108, 3) := by decide +kernel
theorem dX1_howItIs_21 : decode cX1_howItIs 21 = .ok (.istore_n 1, 1) := by decide +kernel
theorem dX1_howItIs_22 : decode cX1_howItIs 22 = .ok (.aload_n 0, 1) := by decide +kernel
theorem dX1_howItIs_23 : decode cX1_howItIs 23 = .ok (.getfield 39, 3) := by decide +kernel
theorem dX1_howItIs_26 : decode cX1_howItIs 26 = .ok (.ifCond .ne 13, 3) := by decide +kernel
theorem dX1_howItIs_29 : decode cX1_howItIs 29 = .ok (.iload_n 1, 1) := by decide +kernel
theorem dX1_howItIs_30 : decode cX1_howItIs 30 = .ok (.ifCond .eq 7, 3) := by decide +kernel
theorem dX1_howItIs_33 : decode cX1_howItIs 33 = .ok (.iconst 2, 1) := by decide +kernel
theorem dX1_howItIs_34 : decode cX1_howItIs 34 = .ok (.goto 4, 3) := by decide +kernel
theorem dX1_howItIs_37 : decode cX1_howItIs 37 = .ok (.iconst 3, 1) := by decide +kernel
theorem dX1_howItIs_38 : decode cX1_howItIs 38 = .ok (.ireturn, 1) := by decide +kernel
theorem dX1_howItIs_39 : decode cX1_howItIs 39 = .ok (.aload_n 0, 1) := by decide +kernel
theorem dX1_howItIs_40 : decode cX1_howItIs 40 = .ok (.getfield 22, 3) := by decide +kernel
theorem dX1_howItIs_43 : decode cX1_howItIs 43 = .ok (.bipush 60, 2) := by decide +kernel
theorem dX1_howItIs_45 : decode cX1_howItIs 45 = .ok (.if_icmp .lt 5, 3) := by decide +kernel
theorem dX1_howItIs_48 : decode cX1_howItIs 48 = .ok (.iconst 4, 1) := by decide +kernel
theorem dX1_howItIs_49 : decode cX1_howItIs 49 = .ok (.ireturn, 1) := by decide +kernel
theorem dX1_howItIs_50 : decode cX1_howItIs 50 = .ok (.iload_n 1, 1) := by decide +kernel
theorem dX1_howItIs_51 : decode cX1_howItIs 51 = .ok (.ifCond .eq 7, 3) := by decide +kernel
theorem dX1_howItIs_54 : decode cX1_howItIs 54 = .ok (.iconst 1, 1) := by decide +kernel
theorem dX1_howItIs_55 : decode cX1_howItIs 55 = .ok (.goto 4, 3) := by decide +kernel
theorem dX1_howItIs_58 : decode cX1_howItIs 58 = .ok (.iconst 0, 1) := by decide +kernel
theorem dX1_howItIs_59 : decode cX1_howItIs 59 = .ok (.ireturn, 1) := by decide +kernel
theorem dX1_pointsOf_0 : decode cX1_pointsOf 0 = .ok (.aload_n 0, 1) := by decide +kernel
theorem dX1_pointsOf_1 : decode cX1_pointsOf 1 = .ok (.invokevirtual 111, 3) := by decide +kernel
theorem dX1_pointsOf_4 : decode cX1_pointsOf 4 = .ok (.tableswitch 58 2 4 #[28, 42, 56], 28) := by decide +kernel
theorem dX1_pointsOf_32 : decode cX1_pointsOf 32 = .ok (.iload_n 1, 1) := by decide +kernel
theorem dX1_pointsOf_33 : decode cX1_pointsOf 33 = .ok (.aload_n 0, 1) := by decide +kernel
theorem dX1_pointsOf_34 : decode cX1_pointsOf 34 = .ok (.getfield 18, 3) := by decide +kernel
theorem dX1_pointsOf_37 : decode cX1_pointsOf 37 = .ok (.if_icmp .ne 7, 3) := by decide +kernel
theorem dX1_pointsOf_40 : decode cX1_pointsOf 40 = .ok (.iconst 0, 1) := by decide +kernel
theorem dX1_pointsOf_41 : decode cX1_pointsOf 41 = .ok (.goto 4, 3) := by decide +kernel
theorem dX1_pointsOf_44 : decode cX1_pointsOf 44 = .ok (.iconst 4, 1) := by decide +kernel
theorem dX1_pointsOf_45 : decode cX1_pointsOf 45 = .ok (.ireturn, 1) := by decide +kernel
theorem dX1_pointsOf_46 : decode cX1_pointsOf 46 = .ok (.iload_n 1, 1) := by decide +kernel
theorem dX1_pointsOf_47 : decode cX1_pointsOf 47 = .ok (.aload_n 0, 1) := by decide +kernel
theorem dX1_pointsOf_48 : decode cX1_pointsOf 48 = .ok (.getfield 18, 3) := by decide +kernel
theorem dX1_pointsOf_51 : decode cX1_pointsOf 51 = .ok (.if_icmp .ne 7, 3) := by decide +kernel
theorem dX1_pointsOf_54 : decode cX1_pointsOf 54 = .ok (.iconst 1, 1) := by decide +kernel
theorem dX1_pointsOf_55 : decode cX1_pointsOf 55 = .ok (.goto 4, 3) := by decide +kernel
theorem dX1_pointsOf_58 : decode cX1_pointsOf 58 = .ok (.iconst 3, 1) := by decide +kernel
theorem dX1_pointsOf_59 : decode cX1_pointsOf 59 = .ok (.ireturn, 1) := by decide +kernel
theorem dX1_pointsOf_60 : decode cX1_pointsOf 60 = .ok (.iconst 2, 1) := by decide +kernel
theorem dX1_pointsOf_61 : decode cX1_pointsOf 61 = .ok (.ireturn, 1) := by decide +kernel
theorem dX1_pointsOf_62 : decode cX1_pointsOf 62 = .ok (.iconst 0, 1) := by decide +kernel
theorem dX1_pointsOf_63 : decode cX1_pointsOf 63 = .ok (.ireturn, 1) := by decide +kernel
theorem dX1_moveCount_0 : decode cX1_moveCount 0 = .ok (.aload_n 0, 1) := by decide +kernel
theorem dX1_moveCount_1 : decode cX1_moveCount 1 = .ok (.invokevirtual 105, 3) := by decide +kernel
theorem dX1_moveCount_4 : decode cX1_moveCount 4 = .ok (.aload_n 0, 1) := by decide +kernel
theorem dX1_moveCount_5 : decode cX1_moveCount 5 = .ok (.invokevirtual 115, 3) := by decide +kernel
theorem dX1_moveCount_8 : decode cX1_moveCount 8 = .ok (.ireturn, 1) := by decide +kernel
theorem dX1_openMoves_0 : decode cX1_openMoves 0 = .ok (.aload_n 0, 1) := by decide +kernel
theorem dX1_openMoves_1 : decode cX1_openMoves 1 = .ok (.getfield 22, 3) := by decide +kernel
theorem dX1_openMoves_4 : decode cX1_openMoves 4 = .ok (.bipush 60, 2) := by decide +kernel
theorem dX1_openMoves_6 : decode cX1_openMoves 6 = .ok (.if_icmp .lt 7, 3) := by decide +kernel
theorem dX1_openMoves_9 : decode cX1_openMoves 9 = .ok (.iconst 0, 1) := by decide +kernel
theorem dX1_openMoves_10 : decode cX1_openMoves 10 = .ok (.goto 7, 3) := by decide +kernel
theorem dX1_openMoves_13 : decode cX1_openMoves 13 = .ok (.aload_n 0, 1) := by decide +kernel
theorem dX1_openMoves_14 : decode cX1_openMoves 14 = .ok (.getfield 39, 3) := by decide +kernel
theorem dX1_openMoves_17 : decode cX1_openMoves 17 = .ok (.ireturn, 1) := by decide +kernel
theorem dX1_moveAt_0 : decode cX1_moveAt 0 = .ok (.iload_n 1, 1) := by decide +kernel
theorem dX1_moveAt_1 : decode cX1_moveAt 1 = .ok (.ifCond .lt 21, 3) := by decide +kernel
theorem dX1_moveAt_4 : decode cX1_moveAt 4 = .ok (.iload_n 1, 1) := by decide +kernel
theorem dX1_moveAt_5 : decode cX1_moveAt 5 = .ok (.aload_n 0, 1) := by decide +kernel
theorem dX1_moveAt_6 : decode cX1_moveAt 6 = .ok (.getfield 35, 3) := by decide +kernel
theorem dX1_moveAt_9 : decode cX1_moveAt 9 = .ok (.arraylength, 1) := by decide +kernel
theorem dX1_moveAt_10 : decode cX1_moveAt 10 = .ok (.if_icmp .ge 12, 3) := by decide +kernel
theorem dX1_moveAt_13 : decode cX1_moveAt 13 = .ok (.aload_n 0, 1) := by decide +kernel
theorem dX1_moveAt_14 : decode cX1_moveAt 14 = .ok (.getfield 35, 3) := by decide +kernel
theorem dX1_moveAt_17 : decode cX1_moveAt 17 = .ok (.iload_n 1, 1) := by decide +kernel
theorem dX1_moveAt_18 : decode cX1_moveAt 18 = .ok (.iaload, 1) := by decide +kernel
theorem dX1_moveAt_19 : decode cX1_moveAt 19 = .ok (.goto 4, 3) := by decide +kernel
theorem dX1_moveAt_22 : decode cX1_moveAt 22 = .ok (.iconst (-1), 1) := by decide +kernel
theorem dX1_moveAt_23 : decode cX1_moveAt 23 = .ok (.ireturn, 1) := by decide +kernel
theorem dX1_movesFrom_0 : decode cX1_movesFrom 0 = .ok (.aload_n 0, 1) := by decide +kernel
theorem dX1_movesFrom_1 : decode cX1_movesFrom 1 = .ok (.invokevirtual 105, 3) := by decide +kernel
theorem dX1_movesFrom_4 : decode cX1_movesFrom 4 = .ok (.iconst 0, 1) := by decide +kernel
theorem dX1_movesFrom_5 : decode cX1_movesFrom 5 = .ok (.istore_n 2, 1) := by decide +kernel
theorem dX1_movesFrom_6 : decode cX1_movesFrom 6 = .ok (.aload_n 0, 1) := by decide +kernel
theorem dX1_movesFrom_7 : decode cX1_movesFrom 7 = .ok (.invokevirtual 115, 3) := by decide +kernel
theorem dX1_movesFrom_10 : decode cX1_movesFrom 10 = .ok (.istore_n 3, 1) := by decide +kernel
theorem dX1_movesFrom_11 : decode cX1_movesFrom 11 = .ok (.iconst 0, 1) := by decide +kernel
theorem dX1_movesFrom_12 : decode cX1_movesFrom 12 = .ok (.istore 4, 2) := by decide +kernel
theorem dX1_movesFrom_14 : decode cX1_movesFrom 14 = .ok (.iload 4, 2) := by decide +kernel
theorem dX1_movesFrom_16 : decode cX1_movesFrom 16 = .ok (.iload_n 3, 1) := by decide +kernel
theorem dX1_movesFrom_17 : decode cX1_movesFrom 17 = .ok (.if_icmp .ge 25, 3) := by decide +kernel
theorem dX1_movesFrom_20 : decode cX1_movesFrom 20 = .ok (.aload_n 0, 1) := by decide +kernel
theorem dX1_movesFrom_21 : decode cX1_movesFrom 21 = .ok (.iload 4, 2) := by decide +kernel
theorem dX1_movesFrom_23 : decode cX1_movesFrom 23 = .ok (.invokevirtual 118, 3) := by decide +kernel
theorem dX1_movesFrom_26 : decode cX1_movesFrom 26 = .ok (.bipush 91, 2) := by decide +kernel
theorem dX1_movesFrom_28 : decode cX1_movesFrom 28 = .ok (.idiv, 1) := by decide +kernel
theorem dX1_movesFrom_29 : decode cX1_movesFrom 29 = .ok (.iload_n 1, 1) := by decide +kernel
theorem dX1_movesFrom_30 : decode cX1_movesFrom 30 = .ok (.if_icmp .ne 6, 3) := by decide +kernel
theorem dX1_movesFrom_33 : decode cX1_movesFrom 33 = .ok (.iinc 2 1, 3) := by decide +kernel
theorem dX1_movesFrom_36 : decode cX1_movesFrom 36 = .ok (.iinc 4 1, 3) := by decide +kernel
theorem dX1_movesFrom_39 : decode cX1_movesFrom 39 = .ok (.goto (-25), 3) := by decide +kernel
theorem dX1_movesFrom_42 : decode cX1_movesFrom 42 = .ok (.iload_n 2, 1) := by decide +kernel
theorem dX1_movesFrom_43 : decode cX1_movesFrom 43 = .ok (.ireturn, 1) := by decide +kernel
theorem dX1_allows_0 : decode cX1_allows 0 = .ok (.aload_n 0, 1) := by decide +kernel
theorem dX1_allows_1 : decode cX1_allows 1 = .ok (.invokevirtual 105, 3) := by decide +kernel
theorem dX1_allows_4 : decode cX1_allows 4 = .ok (.aload_n 0, 1) := by decide +kernel
theorem dX1_allows_5 : decode cX1_allows 5 = .ok (.invokevirtual 115, 3) := by decide +kernel
theorem dX1_allows_8 : decode cX1_allows 8 = .ok (.istore_n 3, 1) := by decide +kernel
theorem dX1_allows_9 : decode cX1_allows 9 = .ok (.iconst 0, 1) := by decide +kernel
theorem dX1_allows_10 : decode cX1_allows 10 = .ok (.istore 4, 2) := by decide +kernel
theorem dX1_allows_12 : decode cX1_allows 12 = .ok (.iload 4, 2) := by decide +kernel
theorem dX1_allows_14 : decode cX1_allows 14 = .ok (.iload_n 3, 1) := by decide +kernel
theorem dX1_allows_15 : decode cX1_allows 15 = .ok (.if_icmp .ge 26, 3) := by decide +kernel
theorem dX1_allows_18 : decode cX1_allows 18 = .ok (.aload_n 0, 1) := by decide +kernel
theorem dX1_allows_19 : decode cX1_allows 19 = .ok (.iload 4, 2) := by decide +kernel
theorem dX1_allows_21 : decode cX1_allows 21 = .ok (.invokevirtual 118, 3) := by decide +kernel
theorem dX1_allows_24 : decode cX1_allows 24 = .ok (.iload_n 1, 1) := by decide +kernel
theorem dX1_allows_25 : decode cX1_allows 25 = .ok (.bipush 91, 2) := by decide +kernel
theorem dX1_allows_27 : decode cX1_allows 27 = .ok (.imul, 1) := by decide +kernel
theorem dX1_allows_28 : decode cX1_allows 28 = .ok (.iload_n 2, 1) := by decide +kernel
theorem dX1_allows_29 : decode cX1_allows 29 = .ok (.iadd, 1) := by decide +kernel
theorem dX1_allows_30 : decode cX1_allows 30 = .ok (.if_icmp .ne 5, 3) := by decide +kernel
theorem dX1_allows_33 : decode cX1_allows 33 = .ok (.iconst 1, 1) := by decide +kernel
theorem dX1_allows_34 : decode cX1_allows 34 = .ok (.ireturn, 1) := by decide +kernel
theorem dX1_allows_35 : decode cX1_allows 35 = .ok (.iinc 4 1, 3) := by decide +kernel
theorem dX1_allows_38 : decode cX1_allows 38 = .ok (.goto (-26), 3) := by decide +kernel
theorem dX1_allows_41 : decode cX1_allows 41 = .ok (.iconst 0, 1) := by decide +kernel
theorem dX1_allows_42 : decode cX1_allows 42 = .ok (.ireturn, 1) := by decide +kernel
theorem dX1_listMoves_0 : decode cX1_listMoves 0 = .ok (.aload_n 0, 1) := by decide +kernel
theorem dX1_listMoves_1 : decode cX1_listMoves 1 = .ok (.getfield 42, 3) := by decide +kernel
theorem dX1_listMoves_4 : decode cX1_listMoves 4 = .ok (.ifCond .eq 4, 3) := by decide +kernel
theorem dX1_listMoves_7 : decode cX1_listMoves 7 = .ok (.return_, 1) := by decide +kernel
theorem dX1_listMoves_8 : decode cX1_listMoves 8 = .ok (.aload_n 0, 1) := by decide +kernel
theorem dX1_listMoves_9 : decode cX1_listMoves 9 = .ok (.iconst 1, 1) := by decide +kernel
theorem dX1_listMoves_10 : decode cX1_listMoves 10 = .ok (.putfield 42, 3) := by decide +kernel
theorem dX1_listMoves_13 : decode cX1_listMoves 13 = .ok (.aload_n 0, 1) := by decide +kernel
theorem dX1_listMoves_14 : decode cX1_listMoves 14 = .ok (.iconst 0, 1) := by decide +kernel
theorem dX1_listMoves_15 : decode cX1_listMoves 15 = .ok (.putfield 39, 3) := by decide +kernel
theorem dX1_listMoves_18 : decode cX1_listMoves 18 = .ok (.aload_n 0, 1) := by decide +kernel
theorem dX1_listMoves_19 : decode cX1_listMoves 19 = .ok (.invokevirtual 101, 3) := by decide +kernel
theorem dX1_listMoves_22 : decode cX1_listMoves 22 = .ok (.ifCond .ne 4, 3) := by decide +kernel
theorem dX1_listMoves_25 : decode cX1_listMoves 25 = .ok (.return_, 1) := by decide +kernel
theorem dX1_listMoves_26 : decode cX1_listMoves 26 = .ok (.aload_n 0, 1) := by decide +kernel
theorem dX1_listMoves_27 : decode cX1_listMoves 27 = .ok (.invokevirtual 121, 3) := by decide +kernel
theorem dX1_listMoves_30 : decode cX1_listMoves 30 = .ok (.iconst 0, 1) := by decide +kernel
theorem dX1_listMoves_31 : decode cX1_listMoves 31 = .ok (.istore_n 1, 1) := by decide +kernel
theorem dX1_listMoves_32 : decode cX1_listMoves 32 = .ok (.iload_n 1, 1) := by decide +kernel
theorem dX1_listMoves_33 : decode cX1_listMoves 33 = .ok (.bipush 91, 2) := by decide +kernel
theorem dX1_listMoves_35 : decode cX1_listMoves 35 = .ok (.if_icmp .ge 114, 3) := by decide +kernel
theorem dX1_listMoves_38 : decode cX1_listMoves 38 = .ok (.iload_n 1, 1) := by decide +kernel
theorem dX1_listMoves_39 : decode cX1_listMoves 39 = .ok (.invokestatic 73, 3) := by decide +kernel
theorem dX1_listMoves_42 : decode cX1_listMoves 42 = .ok (.istore_n 2, 1) := by decide +kernel
theorem dX1_listMoves_43 : decode cX1_listMoves 43 = .ok (.aload_n 0, 1) := by decide +kernel
theorem dX1_listMoves_44 : decode cX1_listMoves 44 = .ok (.iload_n 2, 1) := by decide +kernel
theorem dX1_listMoves_45 : decode cX1_listMoves 45 = .ok (.invokevirtual 124, 3) := by decide +kernel
theorem dX1_listMoves_48 : decode cX1_listMoves 48 = .ok (.aload_n 0, 1) := by decide +kernel
theorem dX1_listMoves_49 : decode cX1_listMoves 49 = .ok (.invokevirtual 128, 3) := by decide +kernel
theorem dX1_listMoves_52 : decode cX1_listMoves 52 = .ok (.iconst 0, 1) := by decide +kernel
theorem dX1_listMoves_53 : decode cX1_listMoves 53 = .ok (.istore_n 3, 1) := by decide +kernel
theorem dX1_listMoves_54 : decode cX1_listMoves 54 = .ok (.iload_n 3, 1) := by decide +kernel
theorem dX1_listMoves_55 : decode cX1_listMoves 55 = .ok (.aload_n 0, 1) := by decide +kernel
theorem dX1_listMoves_56 : decode cX1_listMoves 56 = .ok (.getfield 49, 3) := by decide +kernel
theorem dX1_listMoves_59 : decode cX1_listMoves 59 = .ok (.if_icmp .ge 84, 3) := by decide +kernel
theorem dX1_listMoves_62 : decode cX1_listMoves 62 = .ok (.iload_n 3, 1) := by decide +kernel
theorem dX1_listMoves_63 : decode cX1_listMoves 63 = .ok (.aload_n 0, 1) := by decide +kernel
theorem dX1_listMoves_64 : decode cX1_listMoves 64 = .ok (.getfield 46, 3) := by decide +kernel
theorem dX1_listMoves_67 : decode cX1_listMoves 67 = .ok (.arraylength, 1) := by decide +kernel
theorem dX1_listMoves_68 : decode cX1_listMoves 68 = .ok (.if_icmp .ge 75, 3) := by decide +kernel
theorem dX1_listMoves_71 : decode cX1_listMoves 71 = .ok (.aload_n 0, 1) := by decide +kernel
theorem dX1_listMoves_72 : decode cX1_listMoves 72 = .ok (.iload_n 2, 1) := by decide +kernel
theorem dX1_listMoves_73 : decode cX1_listMoves 73 = .ok (.aload_n 0, 1) := by decide +kernel
theorem dX1_listMoves_74 : decode cX1_listMoves 74 = .ok (.getfield 46, 3) := by decide +kernel
theorem dX1_listMoves_77 : decode cX1_listMoves 77 = .ok (.iload_n 3, 1) := by decide +kernel
theorem dX1_listMoves_78 : decode cX1_listMoves 78 = .ok (.iaload, 1) := by decide +kernel
theorem dX1_listMoves_79 : decode cX1_listMoves 79 = .ok (.invokevirtual 131, 3) := by decide +kernel
theorem dX1_listMoves_82 : decode cX1_listMoves 82 = .ok (.ifCond .eq 55, 3) := by decide +kernel
theorem dX1_listMoves_85 : decode cX1_listMoves 85 = .ok (.aload_n 0, 1) := by decide +kernel
theorem dX1_listMoves_86 : decode cX1_listMoves 86 = .ok (.getfield 39, 3) := by decide +kernel
theorem dX1_listMoves_89 : decode cX1_listMoves 89 = .ok (.ifCond .lt 48, 3) := by decide +kernel
theorem dX1_listMoves_92 : decode cX1_listMoves 92 = .ok (.aload_n 0, 1) := by decide +kernel
theorem dX1_listMoves_93 : decode cX1_listMoves 93 = .ok (.getfield 39, 3) := by decide +kernel
theorem dX1_listMoves_96 : decode cX1_listMoves 96 = .ok (.aload_n 0, 1) := by decide +kernel
theorem dX1_listMoves_97 : decode cX1_listMoves 97 = .ok (.getfield 35, 3) := by decide +kernel
theorem dX1_listMoves_100 : decode cX1_listMoves 100 = .ok (.arraylength, 1) := by decide +kernel
theorem dX1_listMoves_101 : decode cX1_listMoves 101 = .ok (.if_icmp .ge 36, 3) := by decide +kernel
theorem dX1_listMoves_104 : decode cX1_listMoves 104 = .ok (.aload_n 0, 1) := by decide +kernel
theorem dX1_listMoves_105 : decode cX1_listMoves 105 = .ok (.getfield 35, 3) := by decide +kernel
theorem dX1_listMoves_108 : decode cX1_listMoves 108 = .ok (.aload_n 0, 1) := by decide +kernel
theorem dX1_listMoves_109 : decode cX1_listMoves 109 = .ok (.getfield 39, 3) := by decide +kernel
theorem dX1_listMoves_112 : decode cX1_listMoves 112 = .ok (.iload_n 1, 1) := by decide +kernel
theorem dX1_listMoves_113 : decode cX1_listMoves 113 = .ok (.bipush 91, 2) := by decide +kernel
theorem dX1_listMoves_115 : decode cX1_listMoves 115 = .ok (.imul, 1) := by decide +kernel
theorem dX1_listMoves_116 : decode cX1_listMoves 116 = .ok (.aload_n 0, 1) := by decide +kernel
theorem dX1_listMoves_117 : decode cX1_listMoves 117 = .ok (.getfield 46, 3) := by decide +kernel
theorem dX1_listMoves_120 : decode cX1_listMoves 120 = .ok (.iload_n 3, 1) := by decide +kernel
theorem dX1_listMoves_121 : decode cX1_listMoves 121 = .ok (.iaload, 1) := by decide +kernel
theorem dX1_listMoves_122 : decode cX1_listMoves 122 = .ok (.invokestatic 94, 3) := by decide +kernel
theorem dX1_listMoves_125 : decode cX1_listMoves 125 = .ok (.iadd, 1) := by decide +kernel
theorem dX1_listMoves_126 : decode cX1_listMoves 126 = .ok (.iastore, 1) := by decide +kernel
theorem dX1_listMoves_127 : decode cX1_listMoves 127 = .ok (.aload_n 0, 1) := by decide +kernel
theorem dX1_listMoves_128 : decode cX1_listMoves 128 = .ok (.dup, 1) := by decide +kernel
theorem dX1_listMoves_129 : decode cX1_listMoves 129 = .ok (.getfield 39, 3) := by decide +kernel
theorem dX1_listMoves_132 : decode cX1_listMoves 132 = .ok (.iconst 1, 1) := by decide +kernel
theorem dX1_listMoves_133 : decode cX1_listMoves 133 = .ok (.iadd, 1) := by decide +kernel
theorem dX1_listMoves_134 : decode cX1_listMoves 134 = .ok (.putfield 39, 3) := by decide +kernel
theorem dX1_listMoves_137 : decode cX1_listMoves 137 = .ok (.iinc 3 1, 3) := by decide +kernel
theorem dX1_listMoves_140 : decode cX1_listMoves 140 = .ok (.goto (-86), 3) := by decide +kernel
theorem dX1_listMoves_143 : decode cX1_listMoves 143 = .ok (.iinc 1 1, 3) := by decide +kernel
theorem dX1_listMoves_146 : decode cX1_listMoves 146 = .ok (.goto (-114), 3) := by decide +kernel
theorem dX1_listMoves_149 : decode cX1_listMoves 149 = .ok (.return_, 1) := by decide +kernel
theorem dX1_countMoves_0 : decode cX1_countMoves 0 = .ok (.aload_n 0, 1) := by decide +kernel
theorem dX1_countMoves_1 : decode cX1_countMoves 1 = .ok (.invokevirtual 121, 3) := by decide +kernel
theorem dX1_countMoves_4 : decode cX1_countMoves 4 = .ok (.iconst 0, 1) := by decide +kernel
theorem dX1_countMoves_5 : decode cX1_countMoves 5 = .ok (.istore_n 2, 1) := by decide +kernel
theorem dX1_countMoves_6 : decode cX1_countMoves 6 = .ok (.iconst 0, 1) := by decide +kernel
theorem dX1_countMoves_7 : decode cX1_countMoves 7 = .ok (.istore_n 3, 1) := by decide +kernel
theorem dX1_countMoves_8 : decode cX1_countMoves 8 = .ok (.iload_n 3, 1) := by decide +kernel
theorem dX1_countMoves_9 : decode cX1_countMoves 9 = .ok (.bipush 91, 2) := by decide +kernel
theorem dX1_countMoves_11 : decode cX1_countMoves 11 = .ok (.if_icmp .ge 73, 3) := by decide +kernel
theorem dX1_countMoves_14 : decode cX1_countMoves 14 = .ok (.iload_n 2, 1) := by decide +kernel
theorem dX1_countMoves_15 : decode cX1_countMoves 15 = .ok (.iload_n 1, 1) := by decide +kernel
theorem dX1_countMoves_16 : decode cX1_countMoves 16 = .ok (.if_icmp .ge 68, 3) := by decide +kernel
theorem dX1_countMoves_19 : decode cX1_countMoves 19 = .ok (.iload_n 3, 1) := by decide +kernel
theorem dX1_countMoves_20 : decode cX1_countMoves 20 = .ok (.invokestatic 73, 3) := by decide +kernel
theorem dX1_countMoves_23 : decode cX1_countMoves 23 = .ok (.istore 4, 2) := by decide +kernel
theorem dX1_countMoves_25 : decode cX1_countMoves 25 = .ok (.aload_n 0, 1) := by decide +kernel
theorem dX1_countMoves_26 : decode cX1_countMoves 26 = .ok (.iload 4, 2) := by decide +kernel
theorem dX1_countMoves_28 : decode cX1_countMoves 28 = .ok (.invokevirtual 124, 3) := by decide +kernel
theorem dX1_countMoves_31 : decode cX1_countMoves 31 = .ok (.iconst 0, 1) := by decide +kernel
theorem dX1_countMoves_32 : decode cX1_countMoves 32 = .ok (.istore 5, 2) := by decide +kernel
theorem dX1_countMoves_34 : decode cX1_countMoves 34 = .ok (.iload 5, 2) := by decide +kernel
theorem dX1_countMoves_36 : decode cX1_countMoves 36 = .ok (.aload_n 0, 1) := by decide +kernel
theorem dX1_countMoves_37 : decode cX1_countMoves 37 = .ok (.getfield 49, 3) := by decide +kernel
theorem dX1_countMoves_40 : decode cX1_countMoves 40 = .ok (.if_icmp .ge 38, 3) := by decide +kernel
theorem dX1_countMoves_43 : decode cX1_countMoves 43 = .ok (.iload 5, 2) := by decide +kernel
theorem dX1_countMoves_45 : decode cX1_countMoves 45 = .ok (.aload_n 0, 1) := by decide +kernel
theorem dX1_countMoves_46 : decode cX1_countMoves 46 = .ok (.getfield 46, 3) := by decide +kernel
theorem dX1_countMoves_49 : decode cX1_countMoves 49 = .ok (.arraylength, 1) := by decide +kernel
theorem dX1_countMoves_50 : decode cX1_countMoves 50 = .ok (.if_icmp .ge 28, 3) := by decide +kernel
theorem dX1_countMoves_53 : decode cX1_countMoves 53 = .ok (.aload_n 0, 1) := by decide +kernel
theorem dX1_countMoves_54 : decode cX1_countMoves 54 = .ok (.iload 4, 2) := by decide +kernel
theorem dX1_countMoves_56 : decode cX1_countMoves 56 = .ok (.aload_n 0, 1) := by decide +kernel
theorem dX1_countMoves_57 : decode cX1_countMoves 57 = .ok (.getfield 46, 3) := by decide +kernel
theorem dX1_countMoves_60 : decode cX1_countMoves 60 = .ok (.iload 5, 2) := by decide +kernel
theorem dX1_countMoves_62 : decode cX1_countMoves 62 = .ok (.iaload, 1) := by decide +kernel
theorem dX1_countMoves_63 : decode cX1_countMoves 63 = .ok (.invokevirtual 131, 3) := by decide +kernel
theorem dX1_countMoves_66 : decode cX1_countMoves 66 = .ok (.ifCond .eq 6, 3) := by decide +kernel
theorem dX1_countMoves_69 : decode cX1_countMoves 69 = .ok (.iinc 2 1, 3) := by decide +kernel
theorem dX1_countMoves_72 : decode cX1_countMoves 72 = .ok (.iinc 5 1, 3) := by decide +kernel
theorem dX1_countMoves_75 : decode cX1_countMoves 75 = .ok (.goto (-41), 3) := by decide +kernel
theorem dX1_countMoves_78 : decode cX1_countMoves 78 = .ok (.iinc 3 1, 3) := by decide +kernel
theorem dX1_countMoves_81 : decode cX1_countMoves 81 = .ok (.goto (-73), 3) := by decide +kernel
theorem dX1_countMoves_84 : decode cX1_countMoves 84 = .ok (.iload_n 2, 1) := by decide +kernel
theorem dX1_countMoves_85 : decode cX1_countMoves 85 = .ok (.iload_n 1, 1) := by decide +kernel
theorem dX1_countMoves_86 : decode cX1_countMoves 86 = .ok (.invokestatic 135, 3) := by decide +kernel
theorem dX1_countMoves_89 : decode cX1_countMoves 89 = .ok (.ireturn, 1) := by decide +kernel
theorem dX1_sortTargets_0 : decode cX1_sortTargets 0 = .ok (.iconst 1, 1) := by decide +kernel
theorem dX1_sortTargets_1 : decode cX1_sortTargets 1 = .ok (.istore_n 1, 1) := by decide +kernel
theorem dX1_sortTargets_2 : decode cX1_sortTargets 2 = .ok (.iload_n 1, 1) := by decide +kernel
theorem dX1_sortTargets_3 : decode cX1_sortTargets 3 = .ok (.aload_n 0, 1) := by decide +kernel
theorem dX1_sortTargets_4 : decode cX1_sortTargets 4 = .ok (.getfield 49, 3) := by decide +kernel
theorem dX1_sortTargets_7 : decode cX1_sortTargets 7 = .ok (.if_icmp .ge 70, 3) := by decide +kernel
theorem dX1_sortTargets_10 : decode cX1_sortTargets 10 = .ok (.iload_n 1, 1) := by decide +kernel
theorem dX1_sortTargets_11 : decode cX1_sortTargets 11 = .ok (.aload_n 0, 1) := by decide +kernel
theorem dX1_sortTargets_12 : decode cX1_sortTargets 12 = .ok (.getfield 46, 3) := by decide +kernel
theorem dX1_sortTargets_15 : decode cX1_sortTargets 15 = .ok (.arraylength, 1) := by decide +kernel
theorem dX1_sortTargets_16 : decode cX1_sortTargets 16 = .ok (.if_icmp .ge 61, 3) := by decide +kernel
theorem dX1_sortTargets_19 : decode cX1_sortTargets 19 = .ok (.aload_n 0, 1) := by decide +kernel
theorem dX1_sortTargets_20 : decode cX1_sortTargets 20 = .ok (.getfield 46, 3) := by decide +kernel
theorem dX1_sortTargets_23 : decode cX1_sortTargets 23 = .ok (.iload_n 1, 1) := by decide +kernel
theorem dX1_sortTargets_24 : decode cX1_sortTargets 24 = .ok (.iaload, 1) := by decide +kernel
theorem dX1_sortTargets_25 : decode cX1_sortTargets 25 = .ok (.istore_n 2, 1) := by decide +kernel
theorem dX1_sortTargets_26 : decode cX1_sortTargets 26 = .ok (.iload_n 1, 1) := by decide +kernel
theorem dX1_sortTargets_27 : decode cX1_sortTargets 27 = .ok (.istore_n 3, 1) := by decide +kernel
theorem dX1_sortTargets_28 : decode cX1_sortTargets 28 = .ok (.iload_n 3, 1) := by decide +kernel
theorem dX1_sortTargets_29 : decode cX1_sortTargets 29 = .ok (.ifCond .le 35, 3) := by decide +kernel
theorem dX1_sortTargets_32 : decode cX1_sortTargets 32 = .ok (.aload_n 0, 1) := by decide +kernel
theorem dX1_sortTargets_33 : decode cX1_sortTargets 33 = .ok (.getfield 46, 3) := by decide +kernel
theorem dX1_sortTargets_36 : decode cX1_sortTargets 36 = .ok (.iload_n 3, 1) := by decide +kernel
theorem dX1_sortTargets_37 : decode cX1_sortTargets 37 = .ok (.iconst 1, 1) := by decide +kernel
theorem dX1_sortTargets_38 : decode cX1_sortTargets 38 = .ok (.isub, 1) := by decide +kernel
theorem dX1_sortTargets_39 : decode cX1_sortTargets 39 = .ok (.iaload, 1) := by decide +kernel
theorem dX1_sortTargets_40 : decode cX1_sortTargets 40 = .ok (.iload_n 2, 1) := by decide +kernel
theorem dX1_sortTargets_41 : decode cX1_sortTargets 41 = .ok (.if_icmp .le 23, 3) := by decide +kernel
theorem dX1_sortTargets_44 : decode cX1_sortTargets 44 = .ok (.aload_n 0, 1) := by decide +kernel
theorem dX1_sortTargets_45 : decode cX1_sortTargets 45 = .ok (.getfield 46, 3) := by decide +kernel
theorem dX1_sortTargets_48 : decode cX1_sortTargets 48 = .ok (.iload_n 3, 1) := by decide +kernel
theorem dX1_sortTargets_49 : decode cX1_sortTargets 49 = .ok (.aload_n 0, 1) := by decide +kernel
theorem dX1_sortTargets_50 : decode cX1_sortTargets 50 = .ok (.getfield 46, 3) := by decide +kernel
theorem dX1_sortTargets_53 : decode cX1_sortTargets 53 = .ok (.iload_n 3, 1) := by decide +kernel
theorem dX1_sortTargets_54 : decode cX1_sortTargets 54 = .ok (.iconst 1, 1) := by decide +kernel
theorem dX1_sortTargets_55 : decode cX1_sortTargets 55 = .ok (.isub, 1) := by decide +kernel
theorem dX1_sortTargets_56 : decode cX1_sortTargets 56 = .ok (.iaload, 1) := by decide +kernel
theorem dX1_sortTargets_57 : decode cX1_sortTargets 57 = .ok (.iastore, 1) := by decide +kernel
theorem dX1_sortTargets_58 : decode cX1_sortTargets 58 = .ok (.iinc 3 (-1), 3) := by decide +kernel
theorem dX1_sortTargets_61 : decode cX1_sortTargets 61 = .ok (.goto (-33), 3) := by decide +kernel
theorem dX1_sortTargets_64 : decode cX1_sortTargets 64 = .ok (.aload_n 0, 1) := by decide +kernel
theorem dX1_sortTargets_65 : decode cX1_sortTargets 65 = .ok (.getfield 46, 3) := by decide +kernel
theorem dX1_sortTargets_68 : decode cX1_sortTargets 68 = .ok (.iload_n 3, 1) := by decide +kernel
theorem dX1_sortTargets_69 : decode cX1_sortTargets 69 = .ok (.iload_n 2, 1) := by decide +kernel
theorem dX1_sortTargets_70 : decode cX1_sortTargets 70 = .ok (.iastore, 1) := by decide +kernel
theorem dX1_sortTargets_71 : decode cX1_sortTargets 71 = .ok (.iinc 1 1, 3) := by decide +kernel
theorem dX1_sortTargets_74 : decode cX1_sortTargets 74 = .ok (.goto (-72), 3) := by decide +kernel
theorem dX1_sortTargets_77 : decode cX1_sortTargets 77 = .ok (.return_, 1) := by decide +kernel
theorem dX1_gatherTargets_0 : decode cX1_gatherTargets 0 = .ok (.aload_n 0, 1) := by decide +kernel
theorem dX1_gatherTargets_1 : decode cX1_gatherTargets 1 = .ok (.iconst 0, 1) := by decide +kernel
theorem dX1_gatherTargets_2 : decode cX1_gatherTargets 2 = .ok (.putfield 49, 3) := by decide +kernel
theorem dX1_gatherTargets_5 : decode cX1_gatherTargets 5 = .ok (.aload_n 0, 1) := by decide +kernel
theorem dX1_gatherTargets_6 : decode cX1_gatherTargets 6 = .ok (.getfield 12, 3) := by decide +kernel
theorem dX1_gatherTargets_9 : decode cX1_gatherTargets 9 = .ok (.iload_n 1, 1) := by decide +kernel
theorem dX1_gatherTargets_10 : decode cX1_gatherTargets 10 = .ok (.invokevirtual 85, 3) := by decide +kernel
theorem dX1_gatherTargets_13 : decode cX1_gatherTargets 13 = .ok (.istore_n 2, 1) := by decide +kernel
theorem dX1_gatherTargets_14 : decode cX1_gatherTargets 14 = .ok (.iload_n 2, 1) := by decide +kernel
theorem dX1_gatherTargets_15 : decode cX1_gatherTargets 15 = .ok (.invokestatic 140, 3) := by decide +kernel
theorem dX1_gatherTargets_18 : decode cX1_gatherTargets 18 = .ok (.aload_n 0, 1) := by decide +kernel
theorem dX1_gatherTargets_19 : decode cX1_gatherTargets 19 = .ok (.getfield 18, 3) := by decide +kernel
theorem dX1_gatherTargets_22 : decode cX1_gatherTargets 22 = .ok (.if_icmp .eq 4, 3) := by decide +kernel
theorem dX1_gatherTargets_25 : decode cX1_gatherTargets 25 = .ok (.return_, 1) := by decide +kernel
theorem dX1_gatherTargets_26 : decode cX1_gatherTargets 26 = .ok (.iload_n 2, 1) := by decide +kernel
theorem dX1_gatherTargets_27 : decode cX1_gatherTargets 27 = .ok (.invokestatic 143, 3) := by decide +kernel
theorem dX1_gatherTargets_30 : decode cX1_gatherTargets 30 = .ok (.istore_n 3, 1) := by decide +kernel
theorem dX1_gatherTargets_31 : decode cX1_gatherTargets 31 = .ok (.iload_n 3, 1) := by decide +kernel
theorem dX1_gatherTargets_32 : decode cX1_gatherTargets 32 = .ok (.bipush 6, 2) := by decide +kernel
theorem dX1_gatherTargets_34 : decode cX1_gatherTargets 34 = .ok (.if_icmp .ne 9, 3) := by decide +kernel
theorem dX1_gatherTargets_37 : decode cX1_gatherTargets 37 = .ok (.aload_n 0, 1) := by decide +kernel
theorem dX1_gatherTargets_38 : decode cX1_gatherTargets 38 = .ok (.iload_n 1, 1) := by decide +kernel
theorem dX1_gatherTargets_39 : decode cX1_gatherTargets 39 = .ok (.invokevirtual 146, 3) := by decide +kernel
theorem dX1_gatherTargets_42 : decode cX1_gatherTargets 42 = .ok (.return_, 1) := by decide +kernel
theorem dX1_gatherTargets_43 : decode cX1_gatherTargets 43 = .ok (.iload_n 3, 1) := by decide +kernel
theorem dX1_gatherTargets_44 : decode cX1_gatherTargets 44 = .ok (.invokestatic 149, 3) := by decide +kernel
theorem dX1_gatherTargets_47 : decode cX1_gatherTargets 47 = .ok (.astore 4, 2) := by decide +kernel
theorem dX1_gatherTargets_49 : decode cX1_gatherTargets 49 = .ok (.iload_n 3, 1) := by decide +kernel
theorem dX1_gatherTargets_50 : decode cX1_gatherTargets 50 = .ok (.invokestatic 153, 3) := by decide +kernel
theorem dX1_gatherTargets_53 : decode cX1_gatherTargets 53 = .ok (.aload 4, 2) := by decide +kernel
theorem dX1_gatherTargets_55 : decode cX1_gatherTargets 55 = .ok (.arraylength, 1) := by decide +kernel
theorem dX1_gatherTargets_56 : decode cX1_gatherTargets 56 = .ok (.invokestatic 135, 3) := by decide +kernel
theorem dX1_gatherTargets_59 : decode cX1_gatherTargets 59 = .ok (.istore 5, 2) := by decide +kernel
theorem dX1_gatherTargets_61 : decode cX1_gatherTargets 61 = .ok (.iload_n 3, 1) := by decide +kernel
theorem dX1_gatherTargets_62 : decode cX1_gatherTargets 62 = .ok (.invokestatic 156, 3) := by decide +kernel
theorem dX1_gatherTargets_65 : decode cX1_gatherTargets 65 = .ok (.istore 6, 2) := by decide +kernel
theorem dX1_gatherTargets_67 : decode cX1_gatherTargets 67 = .ok (.iload_n 3, 1) := by decide +kernel
theorem dX1_gatherTargets_68 : decode cX1_gatherTargets 68 = .ok (.invokestatic 159, 3) := by decide +kernel
theorem dX1_gatherTargets_71 : decode cX1_gatherTargets 71 = .ok (.istore 7, 2) := by decide +kernel
theorem dX1_gatherTargets_73 : decode cX1_gatherTargets 73 = .ok (.iload 7, 2) := by decide +kernel
theorem dX1_gatherTargets_75 : decode cX1_gatherTargets 75 = .ok (.iload 5, 2) := by decide +kernel
theorem dX1_gatherTargets_77 : decode cX1_gatherTargets 77 = .ok (.if_icmp .ge 53, 3) := by decide +kernel
theorem dX1_gatherTargets_80 : decode cX1_gatherTargets 80 = .ok (.iload_n 1, 1) := by decide +kernel
theorem dX1_gatherTargets_81 : decode cX1_gatherTargets 81 = .ok (.aload 4, 2) := by decide +kernel
theorem dX1_gatherTargets_83 : decode cX1_gatherTargets 83 = .ok (.iload 7, 2) := by decide +kernel
theorem dX1_gatherTargets_85 : decode cX1_gatherTargets 85 = .ok (.iaload, 1) := by decide +kernel
theorem dX1_gatherTargets_86 : decode cX1_gatherTargets 86 = .ok (.iadd, 1) := by decide +kernel
theorem dX1_gatherTargets_87 : decode cX1_gatherTargets 87 = .ok (.istore 8, 2) := by decide +kernel
theorem dX1_gatherTargets_89 : decode cX1_gatherTargets 89 = .ok (.iconst 0, 1) := by decide +kernel
theorem dX1_gatherTargets_90 : decode cX1_gatherTargets 90 = .ok (.istore 9, 2) := by decide +kernel
theorem dX1_gatherTargets_92 : decode cX1_gatherTargets 92 = .ok (.iload 9, 2) := by decide +kernel
theorem dX1_gatherTargets_94 : decode cX1_gatherTargets 94 = .ok (.iload 6, 2) := by decide +kernel
theorem dX1_gatherTargets_96 : decode cX1_gatherTargets 96 = .ok (.if_icmp .ge 28, 3) := by decide +kernel
theorem dX1_gatherTargets_99 : decode cX1_gatherTargets 99 = .ok (.aload_n 0, 1) := by decide +kernel
theorem dX1_gatherTargets_100 : decode cX1_gatherTargets 100 = .ok (.iload 8, 2) := by decide +kernel
theorem dX1_gatherTargets_102 : decode cX1_gatherTargets 102 = .ok (.invokevirtual 162, 3) := by decide +kernel
theorem dX1_gatherTargets_105 : decode cX1_gatherTargets 105 = .ok (.ifCond .eq 19, 3) := by decide +kernel
theorem dX1_gatherTargets_108 : decode cX1_gatherTargets 108 = .ok (.iload 8, 2) := by decide +kernel
theorem dX1_gatherTargets_110 : decode cX1_gatherTargets 110 = .ok (.aload 4, 2) := by decide +kernel
theorem dX1_gatherTargets_112 : decode cX1_gatherTargets 112 = .ok (.iload 7, 2) := by decide +kernel
theorem dX1_gatherTargets_114 : decode cX1_gatherTargets 114 = .ok (.iaload, 1) := by decide +kernel
theorem dX1_gatherTargets_115 : decode cX1_gatherTargets 115 = .ok (.iadd, 1) := by decide +kernel
theorem dX1_gatherTargets_116 : decode cX1_gatherTargets 116 = .ok (.istore 8, 2) := by decide +kernel
theorem dX1_gatherTargets_118 : decode cX1_gatherTargets 118 = .ok (.iinc 9 1, 3) := by decide +kernel
theorem dX1_gatherTargets_121 : decode cX1_gatherTargets 121 = .ok (.goto (-29), 3) := by decide +kernel
theorem dX1_gatherTargets_124 : decode cX1_gatherTargets 124 = .ok (.iinc 7 1, 3) := by decide +kernel
theorem dX1_gatherTargets_127 : decode cX1_gatherTargets 127 = .ok (.goto (-54), 3) := by decide +kernel
theorem dX1_gatherTargets_130 : decode cX1_gatherTargets 130 = .ok (.return_, 1) := by decide +kernel
theorem dX1_offer_0 : decode cX1_offer 0 = .ok (.aload_n 0, 1) := by decide +kernel
theorem dX1_offer_1 : decode cX1_offer 1 = .ok (.getfield 12, 3) := by decide +kernel
theorem dX1_offer_4 : decode cX1_offer 4 = .ok (.iload_n 1, 1) := by decide +kernel
theorem dX1_offer_5 : decode cX1_offer 5 = .ok (.invokevirtual 85, 3) := by decide +kernel
theorem dX1_offer_8 : decode cX1_offer 8 = .ok (.istore_n 2, 1) := by decide +kernel
theorem dX1_offer_9 : decode cX1_offer 9 = .ok (.iload_n 2, 1) := by decide +kernel
theorem dX1_offer_10 : decode cX1_offer 10 = .ok (.iconst (-1), 1) := by decide +kernel
theorem dX1_offer_11 : decode cX1_offer 11 = .ok (.if_icmp .eq 19, 3) := by decide +kernel
theorem dX1_offer_14 : decode cX1_offer 14 = .ok (.iload_n 2, 1) := by decide +kernel
theorem dX1_offer_15 : decode cX1_offer 15 = .ok (.invokestatic 140, 3) := by decide +kernel
theorem dX1_offer_18 : decode cX1_offer 18 = .ok (.aload_n 0, 1) := by decide +kernel
theorem dX1_offer_19 : decode cX1_offer 19 = .ok (.getfield 18, 3) := by decide +kernel
theorem dX1_offer_22 : decode cX1_offer 22 = .ok (.if_icmp .eq 8, 3) := by decide +kernel
theorem dX1_offer_25 : decode cX1_offer 25 = .ok (.aload_n 0, 1) := by decide +kernel
theorem dX1_offer_26 : decode cX1_offer 26 = .ok (.iload_n 1, 1) := by decide +kernel
theorem dX1_offer_27 : decode cX1_offer 27 = .ok (.invokevirtual 165, 3) := by decide +kernel
theorem dX1_offer_30 : decode cX1_offer 30 = .ok (.iload_n 2, 1) := by decide +kernel
theorem dX1_offer_31 : decode cX1_offer 31 = .ok (.ifCond .ne 7, 3) := by decide +kernel
theorem dX1_offer_34 : decode cX1_offer 34 = .ok (.iconst 1, 1) := by decide +kernel
theorem dX1_offer_35 : decode cX1_offer 35 = .ok (.goto 4, 3) := by decide +kernel
theorem dX1_offer_38 : decode cX1_offer 38 = .ok (.iconst 0, 1) := by decide +kernel
theorem dX1_offer_39 : decode cX1_offer 39 = .ok (.ireturn, 1) := by decide +kernel
theorem dX1_gatherForPawn_0 : decode cX1_gatherForPawn 0 = .ok (.iload_n 1, 1) := by decide +kernel
theorem dX1_gatherForPawn_1 : decode cX1_gatherForPawn 1 = .ok (.aload_n 0, 1) := by decide +kernel
theorem dX1_gatherForPawn_2 : decode cX1_gatherForPawn 2 = .ok (.getfield 18, 3) := by decide +kernel
theorem dX1_gatherForPawn_5 : decode cX1_gatherForPawn 5 = .ok (.invokestatic 168, 3) := by decide +kernel
theorem dX1_gatherForPawn_8 : decode cX1_gatherForPawn 8 = .ok (.iadd, 1) := by decide +kernel
theorem dX1_gatherForPawn_9 : decode cX1_gatherForPawn 9 = .ok (.istore_n 2, 1) := by decide +kernel
theorem dX1_gatherForPawn_10 : decode cX1_gatherForPawn 10 = .ok (.aload_n 0, 1) := by decide +kernel
theorem dX1_gatherForPawn_11 : decode cX1_gatherForPawn 11 = .ok (.getfield 12, 3) := by decide +kernel
theorem dX1_gatherForPawn_14 : decode cX1_gatherForPawn 14 = .ok (.iload_n 2, 1) := by decide +kernel
theorem dX1_gatherForPawn_15 : decode cX1_gatherForPawn 15 = .ok (.invokevirtual 85, 3) := by decide +kernel
theorem dX1_gatherForPawn_18 : decode cX1_gatherForPawn 18 = .ok (.ifCond .ne 45, 3) := by decide +kernel
theorem dX1_gatherForPawn_21 : decode cX1_gatherForPawn 21 = .ok (.aload_n 0, 1) := by decide +kernel
theorem dX1_gatherForPawn_22 : decode cX1_gatherForPawn 22 = .ok (.iload_n 2, 1) := by decide +kernel
theorem dX1_gatherForPawn_23 : decode cX1_gatherForPawn 23 = .ok (.invokevirtual 165, 3) := by decide +kernel
theorem dX1_gatherForPawn_26 : decode cX1_gatherForPawn 26 = .ok (.iload_n 2, 1) := by decide +kernel
theorem dX1_gatherForPawn_27 : decode cX1_gatherForPawn 27 = .ok (.aload_n 0, 1) := by decide +kernel
theorem dX1_gatherForPawn_28 : decode cX1_gatherForPawn 28 = .ok (.getfield 18, 3) := by decide +kernel
theorem dX1_gatherForPawn_31 : decode cX1_gatherForPawn 31 = .ok (.invokestatic 168, 3) := by decide +kernel
theorem dX1_gatherForPawn_34 : decode cX1_gatherForPawn 34 = .ok (.iadd, 1) := by decide +kernel
theorem dX1_gatherForPawn_35 : decode cX1_gatherForPawn 35 = .ok (.istore_n 3, 1) := by decide +kernel
theorem dX1_gatherForPawn_36 : decode cX1_gatherForPawn 36 = .ok (.iload_n 1, 1) := by decide +kernel
theorem dX1_gatherForPawn_37 : decode cX1_gatherForPawn 37 = .ok (.aload_n 0, 1) := by decide +kernel
theorem dX1_gatherForPawn_38 : decode cX1_gatherForPawn 38 = .ok (.getfield 18, 3) := by decide +kernel
theorem dX1_gatherForPawn_41 : decode cX1_gatherForPawn 41 = .ok (.invokestatic 171, 3) := by decide +kernel
theorem dX1_gatherForPawn_44 : decode cX1_gatherForPawn 44 = .ok (.ifCond .eq 19, 3) := by decide +kernel
theorem dX1_gatherForPawn_47 : decode cX1_gatherForPawn 47 = .ok (.aload_n 0, 1) := by decide +kernel
theorem dX1_gatherForPawn_48 : decode cX1_gatherForPawn 48 = .ok (.getfield 12, 3) := by decide +kernel
theorem dX1_gatherForPawn_51 : decode cX1_gatherForPawn 51 = .ok (.iload_n 3, 1) := by decide +kernel
theorem dX1_gatherForPawn_52 : decode cX1_gatherForPawn 52 = .ok (.invokevirtual 85, 3) := by decide +kernel
theorem dX1_gatherForPawn_55 : decode cX1_gatherForPawn 55 = .ok (.ifCond .ne 8, 3) := by decide +kernel
theorem dX1_gatherForPawn_58 : decode cX1_gatherForPawn 58 = .ok (.aload_n 0, 1) := by decide +kernel
theorem dX1_gatherForPawn_59 : decode cX1_gatherForPawn 59 = .ok (.iload_n 3, 1) := by decide +kernel
theorem dX1_gatherForPawn_60 : decode cX1_gatherForPawn 60 = .ok (.invokevirtual 165, 3) := by decide +kernel
theorem dX1_gatherForPawn_63 : decode cX1_gatherForPawn 63 = .ok (.iconst 0, 1) := by decide +kernel
theorem dX1_gatherForPawn_64 : decode cX1_gatherForPawn 64 = .ok (.istore_n 3, 1) := by decide +kernel
theorem dX1_gatherForPawn_65 : decode cX1_gatherForPawn 65 = .ok (.iload_n 3, 1) := by decide +kernel
theorem dX1_gatherForPawn_66 : decode cX1_gatherForPawn 66 = .ok (.getstatic 174, 3) := by decide +kernel
theorem dX1_gatherForPawn_69 : decode cX1_gatherForPawn 69 = .ok (.arraylength, 1) := by decide +kernel
theorem dX1_gatherForPawn_70 : decode cX1_gatherForPawn 70 = .ok (.if_icmp .ge 62, 3) := by decide +kernel
theorem dX1_gatherForPawn_73 : decode cX1_gatherForPawn 73 = .ok (.iload_n 1, 1) := by decide +kernel
theorem dX1_gatherForPawn_74 : decode cX1_gatherForPawn 74 = .ok (.getstatic 174, 3) := by decide +kernel
theorem dX1_gatherForPawn_77 : decode cX1_gatherForPawn 77 = .ok (.iload_n 3, 1) := by decide +kernel
theorem dX1_gatherForPawn_78 : decode cX1_gatherForPawn 78 = .ok (.iaload, 1) := by decide +kernel
theorem dX1_gatherForPawn_79 : decode cX1_gatherForPawn 79 = .ok (.aload_n 0, 1) := by decide +kernel
theorem dX1_gatherForPawn_80 : decode cX1_gatherForPawn 80 = .ok (.getfield 18, 3) := by decide +kernel
theorem dX1_gatherForPawn_83 : decode cX1_gatherForPawn 83 = .ok (.invokestatic 168, 3) := by decide +kernel
theorem dX1_gatherForPawn_86 : decode cX1_gatherForPawn 86 = .ok (.imul, 1) := by decide +kernel
theorem dX1_gatherForPawn_87 : decode cX1_gatherForPawn 87 = .ok (.iadd, 1) := by decide +kernel
theorem dX1_gatherForPawn_88 : decode cX1_gatherForPawn 88 = .ok (.istore 4, 2) := by decide +kernel
theorem dX1_gatherForPawn_90 : decode cX1_gatherForPawn 90 = .ok (.iload 4, 2) := by decide +kernel
theorem dX1_gatherForPawn_92 : decode cX1_gatherForPawn 92 = .ok (.aload_n 0, 1) := by decide +kernel
theorem dX1_gatherForPawn_93 : decode cX1_gatherForPawn 93 = .ok (.getfield 25, 3) := by decide +kernel
theorem dX1_gatherForPawn_96 : decode cX1_gatherForPawn 96 = .ok (.if_icmp .eq 24, 3) := by decide +kernel
theorem dX1_gatherForPawn_99 : decode cX1_gatherForPawn 99 = .ok (.aload_n 0, 1) := by decide +kernel
theorem dX1_gatherForPawn_100 : decode cX1_gatherForPawn 100 = .ok (.getfield 12, 3) := by decide +kernel
theorem dX1_gatherForPawn_103 : decode cX1_gatherForPawn 103 = .ok (.iload 4, 2) := by decide +kernel
theorem dX1_gatherForPawn_105 : decode cX1_gatherForPawn 105 = .ok (.invokevirtual 85, 3) := by decide +kernel
theorem dX1_gatherForPawn_108 : decode cX1_gatherForPawn 108 = .ok (.invokestatic 140, 3) := by decide +kernel
theorem dX1_gatherForPawn_111 : decode cX1_gatherForPawn 111 = .ok (.iconst 1, 1) := by decide +kernel
theorem dX1_gatherForPawn_112 : decode cX1_gatherForPawn 112 = .ok (.aload_n 0, 1) := by decide +kernel
theorem dX1_gatherForPawn_113 : decode cX1_gatherForPawn 113 = .ok (.getfield 18, 3) := by decide +kernel
theorem dX1_gatherForPawn_116 : decode cX1_gatherForPawn 116 = .ok (.isub, 1) := by decide +kernel
theorem dX1_gatherForPawn_117 : decode cX1_gatherForPawn 117 = .ok (.if_icmp .ne 9, 3) := by decide +kernel
theorem dX1_gatherForPawn_120 : decode cX1_gatherForPawn 120 = .ok (.aload_n 0, 1) := by decide +kernel
theorem dX1_gatherForPawn_121 : decode cX1_gatherForPawn 121 = .ok (.iload 4, 2) := by decide +kernel
theorem dX1_gatherForPawn_123 : decode cX1_gatherForPawn 123 = .ok (.invokevirtual 165, 3) := by decide +kernel
theorem dX1_gatherForPawn_126 : decode cX1_gatherForPawn 126 = .ok (.iinc 3 1, 3) := by decide +kernel
theorem dX1_gatherForPawn_129 : decode cX1_gatherForPawn 129 = .ok (.goto (-64), 3) := by decide +kernel
theorem dX1_gatherForPawn_132 : decode cX1_gatherForPawn 132 = .ok (.return_, 1) := by decide +kernel
theorem dX1_keepTarget_0 : decode cX1_keepTarget 0 = .ok (.aload_n 0, 1) := by decide +kernel
theorem dX1_keepTarget_1 : decode cX1_keepTarget 1 = .ok (.getfield 49, 3) := by decide +kernel
theorem dX1_keepTarget_4 : decode cX1_keepTarget 4 = .ok (.ifCond .lt 35, 3) := by decide +kernel
theorem dX1_keepTarget_7 : decode cX1_keepTarget 7 = .ok (.aload_n 0, 1) := by decide +kernel
theorem dX1_keepTarget_8 : decode cX1_keepTarget 8 = .ok (.getfield 49, 3) := by decide +kernel
theorem dX1_keepTarget_11 : decode cX1_keepTarget 11 = .ok (.aload_n 0, 1) := by decide +kernel
theorem dX1_keepTarget_12 : decode cX1_keepTarget 12 = .ok (.getfield 46, 3) := by decide +kernel
theorem dX1_keepTarget_15 : decode cX1_keepTarget 15 = .ok (.arraylength, 1) := by decide +kernel
theorem dX1_keepTarget_16 : decode cX1_keepTarget 16 = .ok (.if_icmp .ge 23, 3) := by decide +kernel
theorem dX1_keepTarget_19 : decode cX1_keepTarget 19 = .ok (.aload_n 0, 1) := by decide +kernel
theorem dX1_keepTarget_20 : decode cX1_keepTarget 20 = .ok (.getfield 46, 3) := by decide +kernel
theorem dX1_keepTarget_23 : decode cX1_keepTarget 23 = .ok (.aload_n 0, 1) := by decide +kernel
theorem dX1_keepTarget_24 : decode cX1_keepTarget 24 = .ok (.getfield 49, 3) := by decide +kernel
theorem dX1_keepTarget_27 : decode cX1_keepTarget 27 = .ok (.iload_n 1, 1) := by decide +kernel
theorem dX1_keepTarget_28 : decode cX1_keepTarget 28 = .ok (.iastore, 1) := by decide +kernel
theorem dX1_keepTarget_29 : decode cX1_keepTarget 29 = .ok (.aload_n 0, 1) := by decide +kernel
theorem dX1_keepTarget_30 : decode cX1_keepTarget 30 = .ok (.dup, 1) := by decide +kernel
theorem dX1_keepTarget_31 : decode cX1_keepTarget 31 = .ok (.getfield 49, 3) := by decide +kernel
theorem dX1_keepTarget_34 : decode cX1_keepTarget 34 = .ok (.iconst 1, 1) := by decide +kernel
theorem dX1_keepTarget_35 : decode cX1_keepTarget 35 = .ok (.iadd, 1) := by decide +kernel
theorem dX1_keepTarget_36 : decode cX1_keepTarget 36 = .ok (.putfield 49, 3) := by decide +kernel
theorem dX1_keepTarget_39 : decode cX1_keepTarget 39 = .ok (.return_, 1) := by decide +kernel
theorem dX1_lookAtKing_0 : decode cX1_lookAtKing 0 = .ok (.aload_n 0, 1) := by decide +kernel
theorem dX1_lookAtKing_1 : decode cX1_lookAtKing 1 = .ok (.getfield 12, 3) := by decide +kernel
theorem dX1_lookAtKing_4 : decode cX1_lookAtKing 4 = .ok (.aload_n 0, 1) := by decide +kernel
theorem dX1_lookAtKing_5 : decode cX1_lookAtKing 5 = .ok (.getfield 18, 3) := by decide +kernel
theorem dX1_lookAtKing_8 : decode cX1_lookAtKing 8 = .ok (.invokevirtual 91, 3) := by decide +kernel
theorem dX1_lookAtKing_11 : decode cX1_lookAtKing 11 = .ok (.istore_n 1, 1) := by decide +kernel
theorem dX1_lookAtKing_12 : decode cX1_lookAtKing 12 = .ok (.aload_n 0, 1) := by decide +kernel
theorem dX1_lookAtKing_13 : decode cX1_lookAtKing 13 = .ok (.aload_n 0, 1) := by decide +kernel
theorem dX1_lookAtKing_14 : decode cX1_lookAtKing 14 = .ok (.getfield 12, 3) := by decide +kernel
theorem dX1_lookAtKing_17 : decode cX1_lookAtKing 17 = .ok (.iload_n 1, 1) := by decide +kernel
theorem dX1_lookAtKing_18 : decode cX1_lookAtKing 18 = .ok (.iconst 1, 1) := by decide +kernel
theorem dX1_lookAtKing_19 : decode cX1_lookAtKing 19 = .ok (.aload_n 0, 1) := by decide +kernel
theorem dX1_lookAtKing_20 : decode cX1_lookAtKing 20 = .ok (.getfield 18, 3) := by decide +kernel
theorem dX1_lookAtKing_23 : decode cX1_lookAtKing 23 = .ok (.isub, 1) := by decide +kernel
theorem dX1_lookAtKing_24 : decode cX1_lookAtKing 24 = .ok (.invokevirtual 88, 3) := by decide +kernel
theorem dX1_lookAtKing_27 : decode cX1_lookAtKing 27 = .ok (.ifCond .le 7, 3) := by decide +kernel
theorem dX1_lookAtKing_30 : decode cX1_lookAtKing 30 = .ok (.iconst 1, 1) := by decide +kernel
theorem dX1_lookAtKing_31 : decode cX1_lookAtKing 31 = .ok (.goto 4, 3) := by decide +kernel
theorem dX1_lookAtKing_34 : decode cX1_lookAtKing 34 = .ok (.iconst 0, 1) := by decide +kernel
theorem dX1_lookAtKing_35 : decode cX1_lookAtKing 35 = .ok (.putfield 61, 3) := by decide +kernel
theorem dX1_lookAtKing_38 : decode cX1_lookAtKing 38 = .ok (.aload_n 0, 1) := by decide +kernel
theorem dX1_lookAtKing_39 : decode cX1_lookAtKing 39 = .ok (.iconst 0, 1) := by decide +kernel
theorem dX1_lookAtKing_40 : decode cX1_lookAtKing 40 = .ok (.putfield 58, 3) := by decide +kernel
theorem dX1_lookAtKing_43 : decode cX1_lookAtKing 43 = .ok (.iconst 0, 1) := by decide +kernel
theorem dX1_lookAtKing_44 : decode cX1_lookAtKing 44 = .ok (.istore_n 2, 1) := by decide +kernel
theorem dX1_lookAtKing_45 : decode cX1_lookAtKing 45 = .ok (.iload_n 2, 1) := by decide +kernel
theorem dX1_lookAtKing_46 : decode cX1_lookAtKing 46 = .ok (.getstatic 52, 3) := by decide +kernel
theorem dX1_lookAtKing_49 : decode cX1_lookAtKing 49 = .ok (.arraylength, 1) := by decide +kernel
theorem dX1_lookAtKing_50 : decode cX1_lookAtKing 50 = .ok (.if_icmp .ge 129, 3) := by decide +kernel
theorem dX1_lookAtKing_53 : decode cX1_lookAtKing 53 = .ok (.aload_n 0, 1) := by decide +kernel
theorem dX1_lookAtKing_54 : decode cX1_lookAtKing 54 = .ok (.getfield 12, 3) := by decide +kernel
theorem dX1_lookAtKing_57 : decode cX1_lookAtKing 57 = .ok (.iload_n 1, 1) := by decide +kernel
theorem dX1_lookAtKing_58 : decode cX1_lookAtKing 58 = .ok (.getstatic 52, 3) := by decide +kernel
theorem dX1_lookAtKing_61 : decode cX1_lookAtKing 61 = .ok (.iload_n 2, 1) := by decide +kernel
theorem dX1_lookAtKing_62 : decode cX1_lookAtKing 62 = .ok (.iaload, 1) := by decide +kernel
theorem dX1_lookAtKing_63 : decode cX1_lookAtKing 63 = .ok (.invokevirtual 177, 3) := by decide +kernel
theorem dX1_lookAtKing_66 : decode cX1_lookAtKing 66 = .ok (.istore_n 3, 1) := by decide +kernel
theorem dX1_lookAtKing_67 : decode cX1_lookAtKing 67 = .ok (.aload_n 0, 1) := by decide +kernel
theorem dX1_lookAtKing_68 : decode cX1_lookAtKing 68 = .ok (.getfield 12, 3) := by decide +kernel
theorem dX1_lookAtKing_71 : decode cX1_lookAtKing 71 = .ok (.aload_n 0, 1) := by decide +kernel
theorem dX1_lookAtKing_72 : decode cX1_lookAtKing 72 = .ok (.getfield 12, 3) := by decide +kernel
theorem dX1_lookAtKing_75 : decode cX1_lookAtKing 75 = .ok (.iload_n 3, 1) := by decide +kernel
theorem dX1_lookAtKing_76 : decode cX1_lookAtKing 76 = .ok (.getstatic 52, 3) := by decide +kernel
theorem dX1_lookAtKing_79 : decode cX1_lookAtKing 79 = .ok (.iload_n 2, 1) := by decide +kernel
theorem dX1_lookAtKing_80 : decode cX1_lookAtKing 80 = .ok (.iaload, 1) := by decide +kernel
theorem dX1_lookAtKing_81 : decode cX1_lookAtKing 81 = .ok (.invokevirtual 177, 3) := by decide +kernel
theorem dX1_lookAtKing_84 : decode cX1_lookAtKing 84 = .ok (.invokevirtual 85, 3) := by decide +kernel
theorem dX1_lookAtKing_87 : decode cX1_lookAtKing 87 = .ok (.istore 4, 2) := by decide +kernel
theorem dX1_lookAtKing_89 : decode cX1_lookAtKing 89 = .ok (.aload_n 0, 1) := by decide +kernel
theorem dX1_lookAtKing_90 : decode cX1_lookAtKing 90 = .ok (.getfield 12, 3) := by decide +kernel
theorem dX1_lookAtKing_93 : decode cX1_lookAtKing 93 = .ok (.iload_n 3, 1) := by decide +kernel
theorem dX1_lookAtKing_94 : decode cX1_lookAtKing 94 = .ok (.invokevirtual 85, 3) := by decide +kernel
theorem dX1_lookAtKing_97 : decode cX1_lookAtKing 97 = .ok (.invokestatic 140, 3) := by decide +kernel
theorem dX1_lookAtKing_100 : decode cX1_lookAtKing 100 = .ok (.aload_n 0, 1) := by decide +kernel
theorem dX1_lookAtKing_101 : decode cX1_lookAtKing 101 = .ok (.getfield 18, 3) := by decide +kernel
theorem dX1_lookAtKing_104 : decode cX1_lookAtKing 104 = .ok (.if_icmp .ne 69, 3) := by decide +kernel
theorem dX1_lookAtKing_107 : decode cX1_lookAtKing 107 = .ok (.iload 4, 2) := by decide +kernel
theorem dX1_lookAtKing_109 : decode cX1_lookAtKing 109 = .ok (.invokestatic 140, 3) := by decide +kernel
theorem dX1_lookAtKing_112 : decode cX1_lookAtKing 112 = .ok (.iconst 1, 1) := by decide +kernel
theorem dX1_lookAtKing_113 : decode cX1_lookAtKing 113 = .ok (.aload_n 0, 1) := by decide +kernel
theorem dX1_lookAtKing_114 : decode cX1_lookAtKing 114 = .ok (.getfield 18, 3) := by decide +kernel
theorem dX1_lookAtKing_117 : decode cX1_lookAtKing 117 = .ok (.isub, 1) := by decide +kernel
theorem dX1_lookAtKing_118 : decode cX1_lookAtKing 118 = .ok (.if_icmp .ne 55, 3) := by decide +kernel
theorem dX1_lookAtKing_121 : decode cX1_lookAtKing 121 = .ok (.iload 4, 2) := by decide +kernel
theorem dX1_lookAtKing_123 : decode cX1_lookAtKing 123 = .ok (.invokestatic 143, 3) := by decide +kernel
theorem dX1_lookAtKing_126 : decode cX1_lookAtKing 126 = .ok (.iload_n 2, 1) := by decide +kernel
theorem dX1_lookAtKing_127 : decode cX1_lookAtKing 127 = .ok (.iconst 0, 1) := by decide +kernel
theorem dX1_lookAtKing_128 : decode cX1_lookAtKing 128 = .ok (.invokestatic 180, 3) := by decide +kernel
theorem dX1_lookAtKing_131 : decode cX1_lookAtKing 131 = .ok (.ifCond .eq 42, 3) := by decide +kernel
theorem dX1_lookAtKing_134 : decode cX1_lookAtKing 134 = .ok (.aload_n 0, 1) := by decide +kernel
theorem dX1_lookAtKing_135 : decode cX1_lookAtKing 135 = .ok (.getfield 58, 3) := by decide +kernel
theorem dX1_lookAtKing_138 : decode cX1_lookAtKing 138 = .ok (.ifCond .lt 35, 3) := by decide +kernel
theorem dX1_lookAtKing_141 : decode cX1_lookAtKing 141 = .ok (.aload_n 0, 1) := by decide +kernel
theorem dX1_lookAtKing_142 : decode cX1_lookAtKing 142 = .ok (.getfield 58, 3) := by decide +kernel
theorem dX1_lookAtKing_145 : decode cX1_lookAtKing 145 = .ok (.aload_n 0, 1) := by decide +kernel
theorem dX1_lookAtKing_146 : decode cX1_lookAtKing 146 = .ok (.getfield 55, 3) := by decide +kernel
theorem dX1_lookAtKing_149 : decode cX1_lookAtKing 149 = .ok (.arraylength, 1) := by decide +kernel
theorem dX1_lookAtKing_150 : decode cX1_lookAtKing 150 = .ok (.if_icmp .ge 23, 3) := by decide +kernel
theorem dX1_lookAtKing_153 : decode cX1_lookAtKing 153 = .ok (.aload_n 0, 1) := by decide +kernel
theorem dX1_lookAtKing_154 : decode cX1_lookAtKing 154 = .ok (.getfield 55, 3) := by decide +kernel
theorem dX1_lookAtKing_157 : decode cX1_lookAtKing 157 = .ok (.aload_n 0, 1) := by decide +kernel
theorem dX1_lookAtKing_158 : decode cX1_lookAtKing 158 = .ok (.getfield 58, 3) := by decide +kernel
theorem dX1_lookAtKing_161 : decode cX1_lookAtKing 161 = .ok (.iload_n 3, 1) := by decide +kernel
theorem dX1_lookAtKing_162 : decode cX1_lookAtKing 162 = .ok (.iastore, 1) := by decide +kernel
theorem dX1_lookAtKing_163 : decode cX1_lookAtKing 163 = .ok (.aload_n 0, 1) := by decide +kernel
theorem dX1_lookAtKing_164 : decode cX1_lookAtKing 164 = .ok (.dup, 1) := by decide +kernel
theorem dX1_lookAtKing_165 : decode cX1_lookAtKing 165 = .ok (.getfield 58, 3) := by decide +kernel
theorem dX1_lookAtKing_168 : decode cX1_lookAtKing 168 = .ok (.iconst 1, 1) := by decide +kernel
theorem dX1_lookAtKing_169 : decode cX1_lookAtKing 169 = .ok (.iadd, 1) := by decide +kernel
theorem dX1_lookAtKing_170 : decode cX1_lookAtKing 170 = .ok (.putfield 58, 3) := by decide +kernel
theorem dX1_lookAtKing_173 : decode cX1_lookAtKing 173 = .ok (.iinc 2 1, 3) := by decide +kernel
theorem dX1_lookAtKing_176 : decode cX1_lookAtKing 176 = .ok (.goto (-131), 3) := by decide +kernel
theorem dX1_lookAtKing_179 : decode cX1_lookAtKing 179 = .ok (.return_, 1) := by decide +kernel
theorem dX1_isPinned_0 : decode cX1_isPinned 0 = .ok (.iconst 0, 1) := by decide +kernel
theorem dX1_isPinned_1 : decode cX1_isPinned 1 = .ok (.istore_n 2, 1) := by decide +kernel
theorem dX1_isPinned_2 : decode cX1_isPinned 2 = .ok (.iload_n 2, 1) := by decide +kernel
theorem dX1_isPinned_3 : decode cX1_isPinned 3 = .ok (.aload_n 0, 1) := by decide +kernel
theorem dX1_isPinned_4 : decode cX1_isPinned 4 = .ok (.getfield 58, 3) := by decide +kernel
theorem dX1_isPinned_7 : decode cX1_isPinned 7 = .ok (.if_icmp .ge 30, 3) := by decide +kernel
theorem dX1_isPinned_10 : decode cX1_isPinned 10 = .ok (.iload_n 2, 1) := by decide +kernel
theorem dX1_isPinned_11 : decode cX1_isPinned 11 = .ok (.aload_n 0, 1) := by decide +kernel
theorem dX1_isPinned_12 : decode cX1_isPinned 12 = .ok (.getfield 55, 3) := by decide +kernel
theorem dX1_isPinned_15 : decode cX1_isPinned 15 = .ok (.arraylength, 1) := by decide +kernel
theorem dX1_isPinned_16 : decode cX1_isPinned 16 = .ok (.if_icmp .ge 21, 3) := by decide +kernel
theorem dX1_isPinned_19 : decode cX1_isPinned 19 = .ok (.aload_n 0, 1) := by decide +kernel
theorem dX1_isPinned_20 : decode cX1_isPinned 20 = .ok (.getfield 55, 3) := by decide +kernel
theorem dX1_isPinned_23 : decode cX1_isPinned 23 = .ok (.iload_n 2, 1) := by decide +kernel
theorem dX1_isPinned_24 : decode cX1_isPinned 24 = .ok (.iaload, 1) := by decide +kernel
theorem dX1_isPinned_25 : decode cX1_isPinned 25 = .ok (.iload_n 1, 1) := by decide +kernel
theorem dX1_isPinned_26 : decode cX1_isPinned 26 = .ok (.if_icmp .ne 5, 3) := by decide +kernel
theorem dX1_isPinned_29 : decode cX1_isPinned 29 = .ok (.iconst 1, 1) := by decide +kernel
theorem dX1_isPinned_30 : decode cX1_isPinned 30 = .ok (.ireturn, 1) := by decide +kernel
theorem dX1_isPinned_31 : decode cX1_isPinned 31 = .ok (.iinc 2 1, 3) := by decide +kernel
theorem dX1_isPinned_34 : decode cX1_isPinned 34 = .ok (.goto (-32), 3) := by decide +kernel
theorem dX1_isPinned_37 : decode cX1_isPinned 37 = .ok (.iconst 0, 1) := by decide +kernel
theorem dX1_isPinned_38 : decode cX1_isPinned 38 = .ok (.ireturn, 1) := by decide +kernel
theorem dX1_isSafe_0 : decode cX1_isSafe 0 = .ok (.aload_n 0, 1) := by decide +kernel
theorem dX1_isSafe_1 : decode cX1_isSafe 1 = .ok (.getfield 61, 3) := by decide +kernel
theorem dX1_isSafe_4 : decode cX1_isSafe 4 = .ok (.ifCond .ne 36, 3) := by decide +kernel
theorem dX1_isSafe_7 : decode cX1_isSafe 7 = .ok (.iload_n 1, 1) := by decide +kernel
theorem dX1_isSafe_8 : decode cX1_isSafe 8 = .ok (.aload_n 0, 1) := by decide +kernel
theorem dX1_isSafe_9 : decode cX1_isSafe 9 = .ok (.getfield 12, 3) := by decide +kernel
theorem dX1_isSafe_12 : decode cX1_isSafe 12 = .ok (.aload_n 0, 1) := by decide +kernel
theorem dX1_isSafe_13 : decode cX1_isSafe 13 = .ok (.getfield 18, 3) := by decide +kernel
theorem dX1_isSafe_16 : decode cX1_isSafe 16 = .ok (.invokevirtual 91, 3) := by decide +kernel
theorem dX1_isSafe_19 : decode cX1_isSafe 19 = .ok (.if_icmp .eq 21, 3) := by decide +kernel
theorem dX1_isSafe_22 : decode cX1_isSafe 22 = .ok (.iload_n 2, 1) := by decide +kernel
theorem dX1_isSafe_23 : decode cX1_isSafe 23 = .ok (.aload_n 0, 1) := by decide +kernel
theorem dX1_isSafe_24 : decode cX1_isSafe 24 = .ok (.getfield 25, 3) := by decide +kernel
theorem dX1_isSafe_27 : decode cX1_isSafe 27 = .ok (.if_icmp .eq 13, 3) := by decide +kernel
theorem dX1_isSafe_30 : decode cX1_isSafe 30 = .ok (.aload_n 0, 1) := by decide +kernel
theorem dX1_isSafe_31 : decode cX1_isSafe 31 = .ok (.iload_n 1, 1) := by decide +kernel
theorem dX1_isSafe_32 : decode cX1_isSafe 32 = .ok (.invokevirtual 184, 3) := by decide +kernel
theorem dX1_isSafe_35 : decode cX1_isSafe 35 = .ok (.ifCond .ne 5, 3) := by decide +kernel
theorem dX1_isSafe_38 : decode cX1_isSafe 38 = .ok (.iconst 1, 1) := by decide +kernel
theorem dX1_isSafe_39 : decode cX1_isSafe 39 = .ok (.ireturn, 1) := by decide +kernel
theorem dX1_isSafe_40 : decode cX1_isSafe 40 = .ok (.aload_n 0, 1) := by decide +kernel
theorem dX1_isSafe_41 : decode cX1_isSafe 41 = .ok (.iload_n 1, 1) := by decide +kernel
theorem dX1_isSafe_42 : decode cX1_isSafe 42 = .ok (.iload_n 2, 1) := by decide +kernel
theorem dX1_isSafe_43 : decode cX1_isSafe 43 = .ok (.iconst 2, 1) := by decide +kernel
theorem dX1_isSafe_44 : decode cX1_isSafe 44 = .ok (.invokevirtual 187, 3) := by decide +kernel
theorem dX1_isSafe_47 : decode cX1_isSafe 47 = .ok (.lstore_n 3, 1) := by decide +kernel
theorem dX1_isSafe_48 : decode cX1_isSafe 48 = .ok (.aload_n 0, 1) := by decide +kernel
theorem dX1_isSafe_49 : decode cX1_isSafe 49 = .ok (.getfield 12, 3) := by decide +kernel
theorem dX1_isSafe_52 : decode cX1_isSafe 52 = .ok (.aload_n 0, 1) := by decide +kernel
theorem dX1_isSafe_53 : decode cX1_isSafe 53 = .ok (.getfield 12, 3) := by decide +kernel
theorem dX1_isSafe_56 : decode cX1_isSafe 56 = .ok (.iconst 1, 1) := by decide +kernel
theorem dX1_isSafe_57 : decode cX1_isSafe 57 = .ok (.aload_n 0, 1) := by decide +kernel
theorem dX1_isSafe_58 : decode cX1_isSafe 58 = .ok (.getfield 18, 3) := by decide +kernel
theorem dX1_isSafe_61 : decode cX1_isSafe 61 = .ok (.isub, 1) := by decide +kernel
theorem dX1_isSafe_62 : decode cX1_isSafe 62 = .ok (.invokevirtual 91, 3) := by decide +kernel
theorem dX1_isSafe_65 : decode cX1_isSafe 65 = .ok (.aload_n 0, 1) := by decide +kernel
theorem dX1_isSafe_66 : decode cX1_isSafe 66 = .ok (.getfield 18, 3) := by decide +kernel
theorem dX1_isSafe_69 : decode cX1_isSafe 69 = .ok (.invokevirtual 88, 3) := by decide +kernel
theorem dX1_isSafe_72 : decode cX1_isSafe 72 = .ok (.ifCond .ne 7, 3) := by decide +kernel
theorem dX1_isSafe_75 : decode cX1_isSafe 75 = .ok (.iconst 1, 1) := by decide +kernel
theorem dX1_isSafe_76 : decode cX1_isSafe 76 = .ok (.goto 4, 3) := by decide +kernel
theorem dX1_isSafe_79 : decode cX1_isSafe 79 = .ok (.iconst 0, 1) := by decide +kernel
theorem dX1_isSafe_80 : decode cX1_isSafe 80 = .ok (.istore 5, 2) := by decide +kernel
theorem dX1_isSafe_82 : decode cX1_isSafe 82 = .ok (.aload_n 0, 1) := by decide +kernel
theorem dX1_isSafe_83 : decode cX1_isSafe 83 = .ok (.lload_n 3, 1) := by decide +kernel
theorem dX1_isSafe_84 : decode cX1_isSafe 84 = .ok (.invokevirtual 191, 3) := by decide +kernel
theorem dX1_isSafe_87 : decode cX1_isSafe 87 = .ok (.iload 5, 2) := by decide +kernel
theorem dX1_isSafe_89 : decode cX1_isSafe 89 = .ok (.ireturn, 1) := by decide +kernel
theorem dX1_play_0 : decode cX1_play 0 = .ok (.aload_n 0, 1) := by decide +kernel
theorem dX1_play_1 : decode cX1_play 1 = .ok (.getfield 12, 3) := by decide +kernel
theorem dX1_play_4 : decode cX1_play 4 = .ok (.iload_n 1, 1) := by decide +kernel
theorem dX1_play_5 : decode cX1_play 5 = .ok (.invokevirtual 85, 3) := by decide +kernel
theorem dX1_play_8 : decode cX1_play 8 = .ok (.istore 4, 2) := by decide +kernel
theorem dX1_play_10 : decode cX1_play 10 = .ok (.iload 4, 2) := by decide +kernel
theorem dX1_play_12 : decode cX1_play 12 = .ok (.invokestatic 143, 3) := by decide +kernel
theorem dX1_play_15 : decode cX1_play 15 = .ok (.bipush 6, 2) := by decide +kernel
theorem dX1_play_17 : decode cX1_play 17 = .ok (.if_icmp .ne 7, 3) := by decide +kernel
theorem dX1_play_20 : decode cX1_play 20 = .ok (.iconst 1, 1) := by decide +kernel
theorem dX1_play_21 : decode cX1_play 21 = .ok (.goto 4, 3) := by decide +kernel
theorem dX1_play_24 : decode cX1_play 24 = .ok (.iconst 0, 1) := by decide +kernel
theorem dX1_play_25 : decode cX1_play 25 = .ok (.istore 5, 2) := by decide +kernel
theorem dX1_play_27 : decode cX1_play 27 = .ok (.iload 5, 2) := by decide +kernel
theorem dX1_play_29 : decode cX1_play 29 = .ok (.ifCond .eq 27, 3) := by decide +kernel
theorem dX1_play_32 : decode cX1_play 32 = .ok (.aload_n 0, 1) := by decide +kernel
theorem dX1_play_33 : decode cX1_play 33 = .ok (.getfield 12, 3) := by decide +kernel
theorem dX1_play_36 : decode cX1_play 36 = .ok (.iload_n 2, 1) := by decide +kernel
theorem dX1_play_37 : decode cX1_play 37 = .ok (.aload_n 0, 1) := by decide +kernel
theorem dX1_play_38 : decode cX1_play 38 = .ok (.getfield 18, 3) := by decide +kernel
theorem dX1_play_41 : decode cX1_play 41 = .ok (.invokestatic 168, 3) := by decide +kernel
theorem dX1_play_44 : decode cX1_play 44 = .ok (.iadd, 1) := by decide +kernel
theorem dX1_play_45 : decode cX1_play 45 = .ok (.invokevirtual 85, 3) := by decide +kernel
theorem dX1_play_48 : decode cX1_play 48 = .ok (.iconst (-1), 1) := by decide +kernel
theorem dX1_play_49 : decode cX1_play 49 = .ok (.if_icmp .ne 7, 3) := by decide +kernel
theorem dX1_play_52 : decode cX1_play 52 = .ok (.iconst 1, 1) := by decide +kernel
theorem dX1_play_53 : decode cX1_play 53 = .ok (.goto 4, 3) := by decide +kernel
theorem dX1_play_56 : decode cX1_play 56 = .ok (.iconst 0, 1) := by decide +kernel
theorem dX1_play_57 : decode cX1_play 57 = .ok (.istore 6, 2) := by decide +kernel
theorem dX1_play_59 : decode cX1_play 59 = .ok (.iload 5, 2) := by decide +kernel
theorem dX1_play_61 : decode cX1_play 61 = .ok (.ifCond .eq 23, 3) := by decide +kernel
theorem dX1_play_64 : decode cX1_play 64 = .ok (.iload_n 2, 1) := by decide +kernel
theorem dX1_play_65 : decode cX1_play 65 = .ok (.aload_n 0, 1) := by decide +kernel
theorem dX1_play_66 : decode cX1_play 66 = .ok (.getfield 25, 3) := by decide +kernel
theorem dX1_play_69 : decode cX1_play 69 = .ok (.if_icmp .ne 15, 3) := by decide +kernel
theorem dX1_play_72 : decode cX1_play 72 = .ok (.iload_n 2, 1) := by decide +kernel
theorem dX1_play_73 : decode cX1_play 73 = .ok (.aload_n 0, 1) := by decide +kernel
theorem dX1_play_74 : decode cX1_play 74 = .ok (.getfield 18, 3) := by decide +kernel
theorem dX1_play_77 : decode cX1_play 77 = .ok (.invokestatic 168, 3) := by decide +kernel
theorem dX1_play_80 : decode cX1_play 80 = .ok (.isub, 1) := by decide +kernel
theorem dX1_play_81 : decode cX1_play 81 = .ok (.goto 4, 3) := by decide +kernel
theorem dX1_play_84 : decode cX1_play 84 = .ok (.iload_n 2, 1) := by decide +kernel
theorem dX1_play_85 : decode cX1_play 85 = .ok (.istore 7, 2) := by decide +kernel
theorem dX1_play_87 : decode cX1_play 87 = .ok (.aload_n 0, 1) := by decide +kernel
theorem dX1_play_88 : decode cX1_play 88 = .ok (.getfield 12, 3) := by decide +kernel
theorem dX1_play_91 : decode cX1_play 91 = .ok (.iload 7, 2) := by decide +kernel
theorem dX1_play_93 : decode cX1_play 93 = .ok (.invokevirtual 85, 3) := by decide +kernel
theorem dX1_play_96 : decode cX1_play 96 = .ok (.istore 8, 2) := by decide +kernel
theorem dX1_play_98 : decode cX1_play 98 = .ok (.iload_n 1, 1) := by decide +kernel
theorem dX1_play_99 : decode cX1_play 99 = .ok (.iload_n 2, 1) := by decide +kernel
theorem dX1_play_100 : decode cX1_play 100 = .ok (.bipush 9, 2) := by decide +kernel
theorem dX1_play_102 : decode cX1_play 102 = .ok (.ishl, 1) := by decide +kernel
theorem dX1_play_103 : decode cX1_play 103 = .ok (.ior, 1) := by decide +kernel
theorem dX1_play_104 : decode cX1_play 104 = .ok (.iload 7, 2) := by decide +kernel
theorem dX1_play_106 : decode cX1_play 106 = .ok (.bipush 18, 2) := by decide +kernel
theorem dX1_play_108 : decode cX1_play 108 = .ok (.ishl, 1) := by decide +kernel
theorem dX1_play_109 : decode cX1_play 109 = .ok (.ior, 1) := by decide +kernel
theorem dX1_play_110 : decode cX1_play 110 = .ok (.i2l, 1) := by decide +kernel
theorem dX1_play_111 : decode cX1_play 111 = .ok (.lstore 9, 2) := by decide +kernel
theorem dX1_play_113 : decode cX1_play 113 = .ok (.lload 9, 2) := by decide +kernel
theorem dX1_play_115 : decode cX1_play 115 = .ok (.iload 4, 2) := by decide +kernel
theorem dX1_play_117 : decode cX1_play 117 = .ok (.iload 8, 2) := by decide +kernel
theorem dX1_play_119 : decode cX1_play 119 = .ok (.iconst 4, 1) := by decide +kernel
theorem dX1_play_120 : decode cX1_play 120 = .ok (.ishl, 1) := by decide +kernel
theorem dX1_play_121 : decode cX1_play 121 = .ok (.ior, 1) := by decide +kernel
theorem dX1_play_122 : decode cX1_play 122 = .ok (.aload_n 0, 1) := by decide +kernel
theorem dX1_play_123 : decode cX1_play 123 = .ok (.getfield 22, 3) := by decide +kernel
theorem dX1_play_126 : decode cX1_play 126 = .ok (.bipush 8, 2) := by decide +kernel
theorem dX1_play_128 : decode cX1_play 128 = .ok (.ishl, 1) := by decide +kernel
theorem dX1_play_129 : decode cX1_play 129 = .ok (.ior, 1) := by decide +kernel
theorem dX1_play_130 : decode cX1_play 130 = .ok (.i2l, 1) := by decide +kernel
theorem dX1_play_131 : decode cX1_play 131 = .ok (.bipush 27, 2) := by decide +kernel
theorem dX1_play_133 : decode cX1_play 133 = .ok (.lshl, 1) := by decide +kernel
theorem dX1_play_134 : decode cX1_play 134 = .ok (.aload_n 0, 1) := by decide +kernel
theorem dX1_play_135 : decode cX1_play 135 = .ok (.getfield 25, 3) := by decide +kernel
theorem dX1_play_138 : decode cX1_play 138 = .ok (.iconst 1, 1) := by decide +kernel
theorem dX1_play_139 : decode cX1_play 139 = .ok (.iadd, 1) := by decide +kernel
theorem dX1_play_140 : decode cX1_play 140 = .ok (.i2l, 1) := by decide +kernel
theorem dX1_play_141 : decode cX1_play 141 = .ok (.bipush 43, 2) := by decide +kernel
theorem dX1_play_143 : decode cX1_play 143 = .ok (.lshl, 1) := by decide +kernel
theorem dX1_play_144 : decode cX1_play 144 = .ok (.lor, 1) := by decide +kernel
theorem dX1_play_145 : decode cX1_play 145 = .ok (.lor, 1) := by decide +kernel
theorem dX1_play_146 : decode cX1_play 146 = .ok (.lstore 9, 2) := by decide +kernel
theorem dX1_play_148 : decode cX1_play 148 = .ok (.aload_n 0, 1) := by decide +kernel
theorem dX1_play_149 : decode cX1_play 149 = .ok (.getfield 12, 3) := by decide +kernel
theorem dX1_play_152 : decode cX1_play 152 = .ok (.iload 7, 2) := by decide +kernel
theorem dX1_play_154 : decode cX1_play 154 = .ok (.iconst 0, 1) := by decide +kernel
theorem dX1_play_155 : decode cX1_play 155 = .ok (.invokevirtual 81, 3) := by decide +kernel
theorem dX1_play_158 : decode cX1_play 158 = .ok (.aload_n 0, 1) := by decide +kernel
theorem dX1_play_159 : decode cX1_play 159 = .ok (.getfield 12, 3) := by decide +kernel
theorem dX1_play_162 : decode cX1_play 162 = .ok (.iload_n 1, 1) := by decide +kernel
theorem dX1_play_163 : decode cX1_play 163 = .ok (.iconst 0, 1) := by decide +kernel
theorem dX1_play_164 : decode cX1_play 164 = .ok (.invokevirtual 81, 3) := by decide +kernel
theorem dX1_play_167 : decode cX1_play 167 = .ok (.aload_n 0, 1) := by decide +kernel
theorem dX1_play_168 : decode cX1_play 168 = .ok (.getfield 12, 3) := by decide +kernel
theorem dX1_play_171 : decode cX1_play 171 = .ok (.iload_n 2, 1) := by decide +kernel
theorem dX1_play_172 : decode cX1_play 172 = .ok (.iload 6, 2) := by decide +kernel
theorem dX1_play_174 : decode cX1_play 174 = .ok (.ifCond .eq 14, 3) := by decide +kernel
theorem dX1_play_177 : decode cX1_play 177 = .ok (.aload_n 0, 1) := by decide +kernel
theorem dX1_play_178 : decode cX1_play 178 = .ok (.getfield 18, 3) := by decide +kernel
theorem dX1_play_181 : decode cX1_play 181 = .ok (.iload_n 3, 1) := by decide +kernel
theorem dX1_play_182 : decode cX1_play 182 = .ok (.invokestatic 77, 3) := by decide +kernel
theorem dX1_play_185 : decode cX1_play 185 = .ok (.goto 5, 3) := by decide +kernel
theorem dX1_play_188 : decode cX1_play 188 = .ok (.iload 4, 2) := by decide +kernel
theorem dX1_play_190 : decode cX1_play 190 = .ok (.invokevirtual 81, 3) := by decide +kernel
theorem dX1_play_193 : decode cX1_play 193 = .ok (.aload_n 0, 1) := by decide +kernel
theorem dX1_play_194 : decode cX1_play 194 = .ok (.iload 5, 2) := by decide +kernel
theorem dX1_play_196 : decode cX1_play 196 = .ok (.ifCond .ne 8, 3) := by decide +kernel
theorem dX1_play_199 : decode cX1_play 199 = .ok (.iload 8, 2) := by decide +kernel
theorem dX1_play_201 : decode cX1_play 201 = .ok (.ifCond .eq 7, 3) := by decide +kernel
theorem dX1_play_204 : decode cX1_play 204 = .ok (.iconst 0, 1) := by decide +kernel
theorem dX1_play_205 : decode cX1_play 205 = .ok (.goto 9, 3) := by decide +kernel
theorem dX1_play_208 : decode cX1_play 208 = .ok (.aload_n 0, 1) := by decide +kernel
theorem dX1_play_209 : decode cX1_play 209 = .ok (.getfield 22, 3) := by decide +kernel
theorem dX1_play_212 : decode cX1_play 212 = .ok (.iconst 1, 1) := by decide +kernel
theorem dX1_play_213 : decode cX1_play 213 = .ok (.iadd, 1) := by decide +kernel
theorem dX1_play_214 : decode cX1_play 214 = .ok (.putfield 22, 3) := by decide +kernel
theorem dX1_play_217 : decode cX1_play 217 = .ok (.aload_n 0, 1) := by decide +kernel
theorem dX1_play_218 : decode cX1_play 218 = .ok (.iload 5, 2) := by decide +kernel
theorem dX1_play_220 : decode cX1_play 220 = .ok (.ifCond .eq 30, 3) := by decide +kernel
theorem dX1_play_223 : decode cX1_play 223 = .ok (.iload_n 2, 1) := by decide +kernel
theorem dX1_play_224 : decode cX1_play 224 = .ok (.iload_n 1, 1) := by decide +kernel
theorem dX1_play_225 : decode cX1_play 225 = .ok (.iconst 2, 1) := by decide +kernel
theorem dX1_play_226 : decode cX1_play 226 = .ok (.aload_n 0, 1) := by decide +kernel
theorem dX1_play_227 : decode cX1_play 227 = .ok (.getfield 18, 3) := by decide +kernel
theorem dX1_play_230 : decode cX1_play 230 = .ok (.invokestatic 168, 3) := by decide +kernel
theorem dX1_play_233 : decode cX1_play 233 = .ok (.imul, 1) := by decide +kernel
theorem dX1_play_234 : decode cX1_play 234 = .ok (.iadd, 1) := by decide +kernel
theorem dX1_play_235 : decode cX1_play 235 = .ok (.if_icmp .ne 15, 3) := by decide +kernel
theorem dX1_play_238 : decode cX1_play 238 = .ok (.iload_n 1, 1) := by decide +kernel
theorem dX1_play_239 : decode cX1_play 239 = .ok (.aload_n 0, 1) := by decide +kernel
theorem dX1_play_240 : decode cX1_play 240 = .ok (.getfield 18, 3) := by decide +kernel
theorem dX1_play_243 : decode cX1_play 243 = .ok (.invokestatic 168, 3) := by decide +kernel
theorem dX1_play_246 : decode cX1_play 246 = .ok (.iadd, 1) := by decide +kernel
theorem dX1_play_247 : decode cX1_play 247 = .ok (.goto 4, 3) := by decide +kernel
theorem dX1_play_250 : decode cX1_play 250 = .ok (.iconst (-1), 1) := by decide +kernel
theorem dX1_play_251 : decode cX1_play 251 = .ok (.putfield 25, 3) := by decide +kernel
theorem dX1_play_254 : decode cX1_play 254 = .ok (.aload_n 0, 1) := by decide +kernel
theorem dX1_play_255 : decode cX1_play 255 = .ok (.iconst 1, 1) := by decide +kernel
theorem dX1_play_256 : decode cX1_play 256 = .ok (.aload_n 0, 1) := by decide +kernel
theorem dX1_play_257 : decode cX1_play 257 = .ok (.getfield 18, 3) := by decide +kernel
theorem dX1_play_260 : decode cX1_play 260 = .ok (.isub, 1) := by decide +kernel
theorem dX1_play_261 : decode cX1_play 261 = .ok (.putfield 18, 3) := by decide +kernel
theorem dX1_play_264 : decode cX1_play 264 = .ok (.lload 9, 2) := by decide +kernel
theorem dX1_play_266 : decode cX1_play 266 = .ok (.lreturn, 1) := by decide +kernel
theorem dX1_undo_0 : decode cX1_undo 0 = .ok (.lload_n 1, 1) := by decide +kernel
theorem dX1_undo_1 : decode cX1_undo 1 = .ok (.bipush 9, 2) := by decide +kernel
theorem dX1_undo_3 : decode cX1_undo 3 = .ok (.lshr, 1) := by decide +kernel
theorem dX1_undo_4 : decode cX1_undo 4 = .ok (.ldc2_w 195, 3) := by decide +kernel
theorem dX1_undo_7 : decode cX1_undo 7 = .ok (.land, 1) := by decide +kernel
theorem dX1_undo_8 : decode cX1_undo 8 = .ok (.l2i, 1) := by decide +kernel
theorem dX1_undo_9 : decode cX1_undo 9 = .ok (.istore_n 3, 1) := by decide +kernel
theorem dX1_undo_10 : decode cX1_undo 10 = .ok (.aload_n 0, 1) := by decide +kernel
theorem dX1_undo_11 : decode cX1_undo 11 = .ok (.getfield 12, 3) := by decide +kernel
theorem dX1_undo_14 : decode cX1_undo 14 = .ok (.iload_n 3, 1) := by decide +kernel
theorem dX1_undo_15 : decode cX1_undo 15 = .ok (.iconst 0, 1) := by decide +kernel
theorem dX1_undo_16 : decode cX1_undo 16 = .ok (.invokevirtual 81, 3) := by decide +kernel
theorem dX1_undo_19 : decode cX1_undo 19 = .ok (.aload_n 0, 1) := by decide +kernel
theorem dX1_undo_20 : decode cX1_undo 20 = .ok (.getfield 12, 3) := by decide +kernel
theorem dX1_undo_23 : decode cX1_undo 23 = .ok (.lload_n 1, 1) := by decide +kernel
theorem dX1_undo_24 : decode cX1_undo 24 = .ok (.bipush 18, 2) := by decide +kernel
theorem dX1_undo_26 : decode cX1_undo 26 = .ok (.lshr, 1) := by decide +kernel
theorem dX1_undo_27 : decode cX1_undo 27 = .ok (.ldc2_w 195, 3) := by decide +kernel
theorem dX1_undo_30 : decode cX1_undo 30 = .ok (.land, 1) := by decide +kernel
theorem dX1_undo_31 : decode cX1_undo 31 = .ok (.l2i, 1) := by decide +kernel
theorem dX1_undo_32 : decode cX1_undo 32 = .ok (.lload_n 1, 1) := by decide +kernel
theorem dX1_undo_33 : decode cX1_undo 33 = .ok (.invokestatic 197, 3) := by decide +kernel
theorem dX1_undo_36 : decode cX1_undo 36 = .ok (.invokevirtual 81, 3) := by decide +kernel
theorem dX1_undo_39 : decode cX1_undo 39 = .ok (.aload_n 0, 1) := by decide +kernel
theorem dX1_undo_40 : decode cX1_undo 40 = .ok (.getfield 12, 3) := by decide +kernel
theorem dX1_undo_43 : decode cX1_undo 43 = .ok (.lload_n 1, 1) := by decide +kernel
theorem dX1_undo_44 : decode cX1_undo 44 = .ok (.ldc2_w 195, 3) := by decide +kernel
theorem dX1_undo_47 : decode cX1_undo 47 = .ok (.land, 1) := by decide +kernel
theorem dX1_undo_48 : decode cX1_undo 48 = .ok (.l2i, 1) := by decide +kernel
theorem dX1_undo_49 : decode cX1_undo 49 = .ok (.lload_n 1, 1) := by decide +kernel
theorem dX1_undo_50 : decode cX1_undo 50 = .ok (.bipush 27, 2) := by decide +kernel
theorem dX1_undo_52 : decode cX1_undo 52 = .ok (.lshr, 1) := by decide +kernel
theorem dX1_undo_53 : decode cX1_undo 53 = .ok (.ldc2_w 201, 3) := by decide +kernel
theorem dX1_undo_56 : decode cX1_undo 56 = .ok (.land, 1) := by decide +kernel
theorem dX1_undo_57 : decode cX1_undo 57 = .ok (.l2i, 1) := by decide +kernel
theorem dX1_undo_58 : decode cX1_undo 58 = .ok (.invokevirtual 81, 3) := by decide +kernel
theorem dX1_undo_61 : decode cX1_undo 61 = .ok (.aload_n 0, 1) := by decide +kernel
theorem dX1_undo_62 : decode cX1_undo 62 = .ok (.lload_n 1, 1) := by decide +kernel
theorem dX1_undo_63 : decode cX1_undo 63 = .ok (.bipush 35, 2) := by decide +kernel
theorem dX1_undo_65 : decode cX1_undo 65 = .ok (.lshr, 1) := by decide +kernel
theorem dX1_undo_66 : decode cX1_undo 66 = .ok (.ldc2_w 203, 3) := by decide +kernel
theorem dX1_undo_69 : decode cX1_undo 69 = .ok (.land, 1) := by decide +kernel
theorem dX1_undo_70 : decode cX1_undo 70 = .ok (.l2i, 1) := by decide +kernel
theorem dX1_undo_71 : decode cX1_undo 71 = .ok (.putfield 22, 3) := by decide +kernel
theorem dX1_undo_74 : decode cX1_undo 74 = .ok (.aload_n 0, 1) := by decide +kernel
theorem dX1_undo_75 : decode cX1_undo 75 = .ok (.lload_n 1, 1) := by decide +kernel
theorem dX1_undo_76 : decode cX1_undo 76 = .ok (.bipush 43, 2) := by decide +kernel
theorem dX1_undo_78 : decode cX1_undo 78 = .ok (.lshr, 1) := by decide +kernel
theorem dX1_undo_79 : decode cX1_undo 79 = .ok (.ldc2_w 195, 3) := by decide +kernel
theorem dX1_undo_82 : decode cX1_undo 82 = .ok (.land, 1) := by decide +kernel
theorem dX1_undo_83 : decode cX1_undo 83 = .ok (.l2i, 1) := by decide +kernel
theorem dX1_undo_84 : decode cX1_undo 84 = .ok (.iconst 1, 1) := by decide +kernel
theorem dX1_undo_85 : decode cX1_undo 85 = .ok (.isub, 1) := by decide +kernel
theorem dX1_undo_86 : decode cX1_undo 86 = .ok (.putfield 25, 3) := by decide +kernel
theorem dX1_undo_89 : decode cX1_undo 89 = .ok (.aload_n 0, 1) := by decide +kernel
theorem dX1_undo_90 : decode cX1_undo 90 = .ok (.iconst 1, 1) := by decide +kernel
theorem dX1_undo_91 : decode cX1_undo 91 = .ok (.aload_n 0, 1) := by decide +kernel
theorem dX1_undo_92 : decode cX1_undo 92 = .ok (.getfield 18, 3) := by decide +kernel
theorem dX1_undo_95 : decode cX1_undo 95 = .ok (.isub, 1) := by decide +kernel
theorem dX1_undo_96 : decode cX1_undo 96 = .ok (.putfield 18, 3) := by decide +kernel
theorem dX1_undo_99 : decode cX1_undo 99 = .ok (.return_, 1) := by decide +kernel
theorem dX1_valueTaken_0 : decode cX1_valueTaken 0 = .ok (.lload_n 0, 1) := by decide +kernel
theorem dX1_valueTaken_1 : decode cX1_valueTaken 1 = .ok (.bipush 31, 2) := by decide +kernel
theorem dX1_valueTaken_3 : decode cX1_valueTaken 3 = .ok (.lshr, 1) := by decide +kernel
theorem dX1_valueTaken_4 : decode cX1_valueTaken 4 = .ok (.ldc2_w 201, 3) := by decide +kernel
theorem dX1_valueTaken_7 : decode cX1_valueTaken 7 = .ok (.land, 1) := by decide +kernel
theorem dX1_valueTaken_8 : decode cX1_valueTaken 8 = .ok (.l2i, 1) := by decide +kernel
theorem dX1_valueTaken_9 : decode cX1_valueTaken 9 = .ok (.ireturn, 1) := by decide +kernel
theorem dX1_isFull_0 : decode cX1_isFull 0 = .ok (.aload_n 0, 1) := by decide +kernel
theorem dX1_isFull_1 : decode cX1_isFull 1 = .ok (.getfield 32, 3) := by decide +kernel
theorem dX1_isFull_4 : decode cX1_isFull 4 = .ok (.aload_n 0, 1) := by decide +kernel
theorem dX1_isFull_5 : decode cX1_isFull 5 = .ok (.getfield 28, 3) := by decide +kernel
theorem dX1_isFull_8 : decode cX1_isFull 8 = .ok (.arraylength, 1) := by decide +kernel
theorem dX1_isFull_9 : decode cX1_isFull 9 = .ok (.if_icmp .lt 7, 3) := by decide +kernel
theorem dX1_isFull_12 : decode cX1_isFull 12 = .ok (.iconst 1, 1) := by decide +kernel
theorem dX1_isFull_13 : decode cX1_isFull 13 = .ok (.goto 4, 3) := by decide +kernel
theorem dX1_isFull_16 : decode cX1_isFull 16 = .ok (.iconst 0, 1) := by decide +kernel
theorem dX1_isFull_17 : decode cX1_isFull 17 = .ok (.ireturn, 1) := by decide +kernel
theorem dX1_make_0 : decode cX1_make 0 = .ok (.aload_n 0, 1) := by decide +kernel
theorem dX1_make_1 : decode cX1_make 1 = .ok (.iload_n 1, 1) := by decide +kernel
theorem dX1_make_2 : decode cX1_make 2 = .ok (.invokestatic 73, 3) := by decide +kernel
theorem dX1_make_5 : decode cX1_make 5 = .ok (.iload_n 2, 1) := by decide +kernel
theorem dX1_make_6 : decode cX1_make 6 = .ok (.invokestatic 73, 3) := by decide +kernel
theorem dX1_make_9 : decode cX1_make 9 = .ok (.iload_n 3, 1) := by decide +kernel
theorem dX1_make_10 : decode cX1_make 10 = .ok (.invokevirtual 187, 3) := by decide +kernel
theorem dX1_make_13 : decode cX1_make 13 = .ok (.lstore 4, 2) := by decide +kernel
theorem dX1_make_15 : decode cX1_make 15 = .ok (.aload_n 0, 1) := by decide +kernel
theorem dX1_make_16 : decode cX1_make 16 = .ok (.getfield 32, 3) := by decide +kernel
theorem dX1_make_19 : decode cX1_make 19 = .ok (.ifCond .lt 36, 3) := by decide +kernel
theorem dX1_make_22 : decode cX1_make 22 = .ok (.aload_n 0, 1) := by decide +kernel
theorem dX1_make_23 : decode cX1_make 23 = .ok (.getfield 32, 3) := by decide +kernel
theorem dX1_make_26 : decode cX1_make 26 = .ok (.aload_n 0, 1) := by decide +kernel
theorem dX1_make_27 : decode cX1_make 27 = .ok (.getfield 28, 3) := by decide +kernel
theorem dX1_make_30 : decode cX1_make 30 = .ok (.arraylength, 1) := by decide +kernel
theorem dX1_make_31 : decode cX1_make 31 = .ok (.if_icmp .ge 24, 3) := by decide +kernel
theorem dX1_make_34 : decode cX1_make 34 = .ok (.aload_n 0, 1) := by decide +kernel
theorem dX1_make_35 : decode cX1_make 35 = .ok (.getfield 28, 3) := by decide +kernel
theorem dX1_make_38 : decode cX1_make 38 = .ok (.aload_n 0, 1) := by decide +kernel
theorem dX1_make_39 : decode cX1_make 39 = .ok (.getfield 32, 3) := by decide +kernel
theorem dX1_make_42 : decode cX1_make 42 = .ok (.lload 4, 2) := by decide +kernel
theorem dX1_make_44 : decode cX1_make 44 = .ok (.lastore, 1) := by decide +kernel
theorem dX1_make_45 : decode cX1_make 45 = .ok (.aload_n 0, 1) := by decide +kernel
theorem dX1_make_46 : decode cX1_make 46 = .ok (.dup, 1) := by decide +kernel
theorem dX1_make_47 : decode cX1_make 47 = .ok (.getfield 32, 3) := by decide +kernel
theorem dX1_make_50 : decode cX1_make 50 = .ok (.iconst 1, 1) := by decide +kernel
theorem dX1_make_51 : decode cX1_make 51 = .ok (.iadd, 1) := by decide +kernel
theorem dX1_make_52 : decode cX1_make 52 = .ok (.putfield 32, 3) := by decide +kernel
theorem dX1_make_55 : decode cX1_make 55 = .ok (.aload_n 0, 1) := by decide +kernel
theorem dX1_make_56 : decode cX1_make 56 = .ok (.iconst 0, 1) := by decide +kernel
theorem dX1_make_57 : decode cX1_make 57 = .ok (.putfield 42, 3) := by decide +kernel
theorem dX1_make_60 : decode cX1_make 60 = .ok (.lload 4, 2) := by decide +kernel
theorem dX1_make_62 : decode cX1_make 62 = .ok (.invokestatic 197, 3) := by decide +kernel
theorem dX1_make_65 : decode cX1_make 65 = .ok (.invokestatic 143, 3) := by decide +kernel
theorem dX1_make_68 : decode cX1_make 68 = .ok (.ireturn, 1) := by decide +kernel
theorem dX1_takeBack_0 : decode cX1_takeBack 0 = .ok (.aload_n 0, 1) := by decide +kernel
theorem dX1_takeBack_1 : decode cX1_takeBack 1 = .ok (.getfield 32, 3) := by decide +kernel
theorem dX1_takeBack_4 : decode cX1_takeBack 4 = .ok (.ifCond .le 43, 3) := by decide +kernel
theorem dX1_takeBack_7 : decode cX1_takeBack 7 = .ok (.aload_n 0, 1) := by decide +kernel
theorem dX1_takeBack_8 : decode cX1_takeBack 8 = .ok (.getfield 32, 3) := by decide +kernel
theorem dX1_takeBack_11 : decode cX1_takeBack 11 = .ok (.aload_n 0, 1) := by decide +kernel
theorem dX1_takeBack_12 : decode cX1_takeBack 12 = .ok (.getfield 28, 3) := by decide +kernel
theorem dX1_takeBack_15 : decode cX1_takeBack 15 = .ok (.arraylength, 1) := by decide +kernel
theorem dX1_takeBack_16 : decode cX1_takeBack 16 = .ok (.if_icmp .gt 31, 3) := by decide +kernel
theorem dX1_takeBack_19 : decode cX1_takeBack 19 = .ok (.aload_n 0, 1) := by decide +kernel
theorem dX1_takeBack_20 : decode cX1_takeBack 20 = .ok (.dup, 1) := by decide +kernel
theorem dX1_takeBack_21 : decode cX1_takeBack 21 = .ok (.getfield 32, 3) := by decide +kernel
theorem dX1_takeBack_24 : decode cX1_takeBack 24 = .ok (.iconst 1, 1) := by decide +kernel
theorem dX1_takeBack_25 : decode cX1_takeBack 25 = .ok (.isub, 1) := by decide +kernel
theorem dX1_takeBack_26 : decode cX1_takeBack 26 = .ok (.putfield 32, 3) := by decide +kernel
theorem dX1_takeBack_29 : decode cX1_takeBack 29 = .ok (.aload_n 0, 1) := by decide +kernel
theorem dX1_takeBack_30 : decode cX1_takeBack 30 = .ok (.aload_n 0, 1) := by decide +kernel
theorem dX1_takeBack_31 : decode cX1_takeBack 31 = .ok (.getfield 28, 3) := by decide +kernel
theorem dX1_takeBack_34 : decode cX1_takeBack 34 = .ok (.aload_n 0, 1) := by decide +kernel
theorem dX1_takeBack_35 : decode cX1_takeBack 35 = .ok (.getfield 32, 3) := by decide +kernel
theorem dX1_takeBack_38 : decode cX1_takeBack 38 = .ok (.laload, 1) := by decide +kernel
theorem dX1_takeBack_39 : decode cX1_takeBack 39 = .ok (.invokevirtual 191, 3) := by decide +kernel
theorem dX1_takeBack_42 : decode cX1_takeBack 42 = .ok (.aload_n 0, 1) := by decide +kernel
theorem dX1_takeBack_43 : decode cX1_takeBack 43 = .ok (.iconst 0, 1) := by decide +kernel
theorem dX1_takeBack_44 : decode cX1_takeBack 44 = .ok (.putfield 42, 3) := by decide +kernel
theorem dX1_takeBack_47 : decode cX1_takeBack 47 = .ok (.return_, 1) := by decide +kernel
theorem dX1_comesToLast_0 : decode cX1_comesToLast 0 = .ok (.aload_n 0, 1) := by decide +kernel
theorem dX1_comesToLast_1 : decode cX1_comesToLast 1 = .ok (.iload_n 1, 1) := by decide +kernel
theorem dX1_comesToLast_2 : decode cX1_comesToLast 2 = .ok (.invokevirtual 205, 3) := by decide +kernel
theorem dX1_comesToLast_5 : decode cX1_comesToLast 5 = .ok (.istore_n 3, 1) := by decide +kernel
theorem dX1_comesToLast_6 : decode cX1_comesToLast 6 = .ok (.iload_n 3, 1) := by decide +kernel
theorem dX1_comesToLast_7 : decode cX1_comesToLast 7 = .ok (.invokestatic 143, 3) := by decide +kernel
theorem dX1_comesToLast_10 : decode cX1_comesToLast 10 = .ok (.bipush 6, 2) := by decide +kernel
theorem dX1_comesToLast_12 : decode cX1_comesToLast 12 = .ok (.if_icmp .ne 30, 3) := by decide +kernel
theorem dX1_comesToLast_15 : decode cX1_comesToLast 15 = .ok (.aload_n 0, 1) := by decide +kernel
theorem dX1_comesToLast_16 : decode cX1_comesToLast 16 = .ok (.getfield 12, 3) := by decide +kernel
theorem dX1_comesToLast_19 : decode cX1_comesToLast 19 = .ok (.iload_n 2, 1) := by decide +kernel
theorem dX1_comesToLast_20 : decode cX1_comesToLast 20 = .ok (.invokestatic 73, 3) := by decide +kernel
theorem dX1_comesToLast_23 : decode cX1_comesToLast 23 = .ok (.iload_n 3, 1) := by decide +kernel
theorem dX1_comesToLast_24 : decode cX1_comesToLast 24 = .ok (.invokestatic 140, 3) := by decide +kernel
theorem dX1_comesToLast_27 : decode cX1_comesToLast 27 = .ok (.invokestatic 168, 3) := by decide +kernel
theorem dX1_comesToLast_30 : decode cX1_comesToLast 30 = .ok (.iadd, 1) := by decide +kernel
theorem dX1_comesToLast_31 : decode cX1_comesToLast 31 = .ok (.invokevirtual 85, 3) := by decide +kernel
theorem dX1_comesToLast_34 : decode cX1_comesToLast 34 = .ok (.iconst (-1), 1) := by decide +kernel
theorem dX1_comesToLast_35 : decode cX1_comesToLast 35 = .ok (.if_icmp .ne 7, 3) := by decide +kernel
theorem dX1_comesToLast_38 : decode cX1_comesToLast 38 = .ok (.iconst 1, 1) := by decide +kernel
theorem dX1_comesToLast_39 : decode cX1_comesToLast 39 = .ok (.goto 4, 3) := by decide +kernel
theorem dX1_comesToLast_42 : decode cX1_comesToLast 42 = .ok (.iconst 0, 1) := by decide +kernel
theorem dX1_comesToLast_43 : decode cX1_comesToLast 43 = .ok (.ireturn, 1) := by decide +kernel
theorem dX1_playListed_0 : decode cX1_playListed 0 = .ok (.aload_n 0, 1) := by decide +kernel
theorem dX1_playListed_1 : decode cX1_playListed 1 = .ok (.iload_n 1, 1) := by decide +kernel
theorem dX1_playListed_2 : decode cX1_playListed 2 = .ok (.invokevirtual 118, 3) := by decide +kernel
theorem dX1_playListed_5 : decode cX1_playListed 5 = .ok (.istore_n 2, 1) := by decide +kernel
theorem dX1_playListed_6 : decode cX1_playListed 6 = .ok (.aload_n 0, 1) := by decide +kernel
theorem dX1_playListed_7 : decode cX1_playListed 7 = .ok (.iload_n 2, 1) := by decide +kernel
theorem dX1_playListed_8 : decode cX1_playListed 8 = .ok (.bipush 91, 2) := by decide +kernel
theorem dX1_playListed_10 : decode cX1_playListed 10 = .ok (.idiv, 1) := by decide +kernel
theorem dX1_playListed_11 : decode cX1_playListed 11 = .ok (.invokestatic 73, 3) := by decide +kernel
theorem dX1_playListed_14 : decode cX1_playListed 14 = .ok (.iload_n 2, 1) := by decide +kernel
theorem dX1_playListed_15 : decode cX1_playListed 15 = .ok (.bipush 91, 2) := by decide +kernel
theorem dX1_playListed_17 : decode cX1_playListed 17 = .ok (.irem, 1) := by decide +kernel
theorem dX1_playListed_18 : decode cX1_playListed 18 = .ok (.invokestatic 73, 3) := by decide +kernel
theorem dX1_playListed_21 : decode cX1_playListed 21 = .ok (.iconst 2, 1) := by decide +kernel
theorem dX1_playListed_22 : decode cX1_playListed 22 = .ok (.invokevirtual 187, 3) := by decide +kernel
theorem dX1_playListed_25 : decode cX1_playListed 25 = .ok (.lreturn, 1) := by decide +kernel
theorem dX1_repliesToAll_0 : decode cX1_repliesToAll 0 = .ok (.iconst 0, 1) := by decide +kernel
theorem dX1_repliesToAll_1 : decode cX1_repliesToAll 1 = .ok (.istore_n 1, 1) := by decide +kernel
theorem dX1_repliesToAll_2 : decode cX1_repliesToAll 2 = .ok (.aload_n 0, 1) := by decide +kernel
theorem dX1_repliesToAll_3 : decode cX1_repliesToAll 3 = .ok (.invokevirtual 208, 3) := by decide +kernel
theorem dX1_repliesToAll_6 : decode cX1_repliesToAll 6 = .ok (.istore_n 2, 1) := by decide +kernel
theorem dX1_repliesToAll_7 : decode cX1_repliesToAll 7 = .ok (.iconst 0, 1) := by decide +kernel
theorem dX1_repliesToAll_8 : decode cX1_repliesToAll 8 = .ok (.istore_n 3, 1) := by decide +kernel
theorem dX1_repliesToAll_9 : decode cX1_repliesToAll 9 = .ok (.iload_n 3, 1) := by decide +kernel
theorem dX1_repliesToAll_10 : decode cX1_repliesToAll 10 = .ok (.iload_n 2, 1) := by decide +kernel
theorem dX1_repliesToAll_11 : decode cX1_repliesToAll 11 = .ok (.if_icmp .ge 41, 3) := by decide +kernel
theorem dX1_repliesToAll_14 : decode cX1_repliesToAll 14 = .ok (.aload_n 0, 1) := by decide +kernel
theorem dX1_repliesToAll_15 : decode cX1_repliesToAll 15 = .ok (.iload_n 3, 1) := by decide +kernel
theorem dX1_repliesToAll_16 : decode cX1_repliesToAll 16 = .ok (.invokevirtual 211, 3) := by decide +kernel
theorem dX1_repliesToAll_19 : decode cX1_repliesToAll 19 = .ok (.lstore 4, 2) := by decide +kernel
theorem dX1_repliesToAll_21 : decode cX1_repliesToAll 21 = .ok (.aload_n 0, 1) := by decide +kernel
theorem dX1_repliesToAll_22 : decode cX1_repliesToAll 22 = .ok (.getfield 22, 3) := by decide +kernel
theorem dX1_repliesToAll_25 : decode cX1_repliesToAll 25 = .ok (.bipush 60, 2) := by decide +kernel
theorem dX1_repliesToAll_27 : decode cX1_repliesToAll 27 = .ok (.if_icmp .ge 13, 3) := by decide +kernel
theorem dX1_repliesToAll_30 : decode cX1_repliesToAll 30 = .ok (.iload_n 1, 1) := by decide +kernel
theorem dX1_repliesToAll_31 : decode cX1_repliesToAll 31 = .ok (.aload_n 0, 1) := by decide +kernel
theorem dX1_repliesToAll_32 : decode cX1_repliesToAll 32 = .ok (.sipush 840, 3) := by decide +kernel
theorem dX1_repliesToAll_35 : decode cX1_repliesToAll 35 = .ok (.invokevirtual 215, 3) := by decide +kernel
theorem dX1_repliesToAll_38 : decode cX1_repliesToAll 38 = .ok (.iadd, 1) := by decide +kernel
theorem dX1_repliesToAll_39 : decode cX1_repliesToAll 39 = .ok (.istore_n 1, 1) := by decide +kernel
theorem dX1_repliesToAll_40 : decode cX1_repliesToAll 40 = .ok (.aload_n 0, 1) := by decide +kernel
theorem dX1_repliesToAll_41 : decode cX1_repliesToAll 41 = .ok (.lload 4, 2) := by decide +kernel
theorem dX1_repliesToAll_43 : decode cX1_repliesToAll 43 = .ok (.invokevirtual 191, 3) := by decide +kernel
theorem dX1_repliesToAll_46 : decode cX1_repliesToAll 46 = .ok (.iinc 3 1, 3) := by decide +kernel
theorem dX1_repliesToAll_49 : decode cX1_repliesToAll 49 = .ok (.goto (-40), 3) := by decide +kernel
theorem dX1_repliesToAll_52 : decode cX1_repliesToAll 52 = .ok (.iload_n 1, 1) := by decide +kernel
theorem dX1_repliesToAll_53 : decode cX1_repliesToAll 53 = .ok (.ireturn, 1) := by decide +kernel
theorem dX1_firstMate_0 : decode cX1_firstMate 0 = .ok (.aload_n 0, 1) := by decide +kernel
theorem dX1_firstMate_1 : decode cX1_firstMate 1 = .ok (.invokevirtual 208, 3) := by decide +kernel
theorem dX1_firstMate_4 : decode cX1_firstMate 4 = .ok (.istore_n 1, 1) := by decide +kernel
theorem dX1_firstMate_5 : decode cX1_firstMate 5 = .ok (.iconst 0, 1) := by decide +kernel
theorem dX1_firstMate_6 : decode cX1_firstMate 6 = .ok (.istore_n 2, 1) := by decide +kernel
theorem dX1_firstMate_7 : decode cX1_firstMate 7 = .ok (.iload_n 2, 1) := by decide +kernel
theorem dX1_firstMate_8 : decode cX1_firstMate 8 = .ok (.iload_n 1, 1) := by decide +kernel
theorem dX1_firstMate_9 : decode cX1_firstMate 9 = .ok (.if_icmp .ge 57, 3) := by decide +kernel
theorem dX1_firstMate_12 : decode cX1_firstMate 12 = .ok (.aload_n 0, 1) := by decide +kernel
theorem dX1_firstMate_13 : decode cX1_firstMate 13 = .ok (.iload_n 2, 1) := by decide +kernel
theorem dX1_firstMate_14 : decode cX1_firstMate 14 = .ok (.invokevirtual 211, 3) := by decide +kernel
theorem dX1_firstMate_17 : decode cX1_firstMate 17 = .ok (.lstore_n 3, 1) := by decide +kernel
theorem dX1_firstMate_18 : decode cX1_firstMate 18 = .ok (.aload_n 0, 1) := by decide +kernel
theorem dX1_firstMate_19 : decode cX1_firstMate 19 = .ok (.aload_n 0, 1) := by decide +kernel
theorem dX1_firstMate_20 : decode cX1_firstMate 20 = .ok (.getfield 18, 3) := by decide +kernel
theorem dX1_firstMate_23 : decode cX1_firstMate 23 = .ok (.invokevirtual 108, 3) := by decide +kernel
theorem dX1_firstMate_26 : decode cX1_firstMate 26 = .ok (.ifCond .eq 15, 3) := by decide +kernel
theorem dX1_firstMate_29 : decode cX1_firstMate 29 = .ok (.aload_n 0, 1) := by decide +kernel
theorem dX1_firstMate_30 : decode cX1_firstMate 30 = .ok (.iconst 1, 1) := by decide +kernel
theorem dX1_firstMate_31 : decode cX1_firstMate 31 = .ok (.invokevirtual 215, 3) := by decide +kernel
theorem dX1_firstMate_34 : decode cX1_firstMate 34 = .ok (.ifCond .ne 7, 3) := by decide +kernel
theorem dX1_firstMate_37 : decode cX1_firstMate 37 = .ok (.iconst 1, 1) := by decide +kernel
theorem dX1_firstMate_38 : decode cX1_firstMate 38 = .ok (.goto 4, 3) := by decide +kernel
theorem dX1_firstMate_41 : decode cX1_firstMate 41 = .ok (.iconst 0, 1) := by decide +kernel
theorem dX1_firstMate_42 : decode cX1_firstMate 42 = .ok (.istore 5, 2) := by decide +kernel
theorem dX1_firstMate_44 : decode cX1_firstMate 44 = .ok (.aload_n 0, 1) := by decide +kernel
theorem dX1_firstMate_45 : decode cX1_firstMate 45 = .ok (.lload_n 3, 1) := by decide +kernel
theorem dX1_firstMate_46 : decode cX1_firstMate 46 = .ok (.invokevirtual 191, 3) := by decide +kernel
theorem dX1_firstMate_49 : decode cX1_firstMate 49 = .ok (.iload 5, 2) := by decide +kernel
theorem dX1_firstMate_51 : decode cX1_firstMate 51 = .ok (.ifCond .eq 9, 3) := by decide +kernel
theorem dX1_firstMate_54 : decode cX1_firstMate 54 = .ok (.aload_n 0, 1) := by decide +kernel
theorem dX1_firstMate_55 : decode cX1_firstMate 55 = .ok (.iload_n 2, 1) := by decide +kernel
theorem dX1_firstMate_56 : decode cX1_firstMate 56 = .ok (.invokevirtual 118, 3) := by decide +kernel
theorem dX1_firstMate_59 : decode cX1_firstMate 59 = .ok (.ireturn, 1) := by decide +kernel
theorem dX1_firstMate_60 : decode cX1_firstMate 60 = .ok (.iinc 2 1, 3) := by decide +kernel
theorem dX1_firstMate_63 : decode cX1_firstMate 63 = .ok (.goto (-56), 3) := by decide +kernel
theorem dX1_firstMate_66 : decode cX1_firstMate 66 = .ok (.iconst (-1), 1) := by decide +kernel
theorem dX1_firstMate_67 : decode cX1_firstMate 67 = .ok (.ireturn, 1) := by decide +kernel
theorem dX1_greediest_0 : decode cX1_greediest 0 = .ok (.iconst (-1), 1) := by decide +kernel
theorem dX1_greediest_1 : decode cX1_greediest 1 = .ok (.istore_n 1, 1) := by decide +kernel
theorem dX1_greediest_2 : decode cX1_greediest 2 = .ok (.iconst 0, 1) := by decide +kernel
theorem dX1_greediest_3 : decode cX1_greediest 3 = .ok (.istore_n 2, 1) := by decide +kernel
theorem dX1_greediest_4 : decode cX1_greediest 4 = .ok (.aload_n 0, 1) := by decide +kernel
theorem dX1_greediest_5 : decode cX1_greediest 5 = .ok (.invokevirtual 208, 3) := by decide +kernel
theorem dX1_greediest_8 : decode cX1_greediest 8 = .ok (.istore_n 3, 1) := by decide +kernel
theorem dX1_greediest_9 : decode cX1_greediest 9 = .ok (.iconst 0, 1) := by decide +kernel
theorem dX1_greediest_10 : decode cX1_greediest 10 = .ok (.istore 4, 2) := by decide +kernel
theorem dX1_greediest_12 : decode cX1_greediest 12 = .ok (.iload 4, 2) := by decide +kernel
theorem dX1_greediest_14 : decode cX1_greediest 14 = .ok (.iload_n 3, 1) := by decide +kernel
theorem dX1_greediest_15 : decode cX1_greediest 15 = .ok (.if_icmp .ge 38, 3) := by decide +kernel
theorem dX1_greediest_18 : decode cX1_greediest 18 = .ok (.aload_n 0, 1) := by decide +kernel
theorem dX1_greediest_19 : decode cX1_greediest 19 = .ok (.iload 4, 2) := by decide +kernel
theorem dX1_greediest_21 : decode cX1_greediest 21 = .ok (.invokevirtual 218, 3) := by decide +kernel
theorem dX1_greediest_24 : decode cX1_greediest 24 = .ok (.istore 5, 2) := by decide +kernel
theorem dX1_greediest_26 : decode cX1_greediest 26 = .ok (.iload_n 1, 1) := by decide +kernel
theorem dX1_greediest_27 : decode cX1_greediest 27 = .ok (.iconst (-1), 1) := by decide +kernel
theorem dX1_greediest_28 : decode cX1_greediest 28 = .ok (.if_icmp .eq 9, 3) := by decide +kernel
theorem dX1_greediest_31 : decode cX1_greediest 31 = .ok (.iload 5, 2) := by decide +kernel
theorem dX1_greediest_33 : decode cX1_greediest 33 = .ok (.iload_n 2, 1) := by decide +kernel
theorem dX1_greediest_34 : decode cX1_greediest 34 = .ok (.if_icmp .le 13, 3) := by decide +kernel
theorem dX1_greediest_37 : decode cX1_greediest 37 = .ok (.aload_n 0, 1) := by decide +kernel
theorem dX1_greediest_38 : decode cX1_greediest 38 = .ok (.iload 4, 2) := by decide +kernel
theorem dX1_greediest_40 : decode cX1_greediest 40 = .ok (.invokevirtual 118, 3) := by decide +kernel
theorem dX1_greediest_43 : decode cX1_greediest 43 = .ok (.istore_n 1, 1) := by decide +kernel
theorem dX1_greediest_44 : decode cX1_greediest 44 = .ok (.iload 5, 2) := by decide +kernel
theorem dX1_greediest_46 : decode cX1_greediest 46 = .ok (.istore_n 2, 1) := by decide +kernel
theorem dX1_greediest_47 : decode cX1_greediest 47 = .ok (.iinc 4 1, 3) := by decide +kernel
theorem dX1_greediest_50 : decode cX1_greediest 50 = .ok (.goto (-38), 3) := by decide +kernel
theorem dX1_greediest_53 : decode cX1_greediest 53 = .ok (.iload_n 1, 1) := by decide +kernel
theorem dX1_greediest_54 : decode cX1_greediest 54 = .ok (.ireturn, 1) := by decide +kernel
theorem dX1_gainOf_0 : decode cX1_gainOf 0 = .ok (.aload_n 0, 1) := by decide +kernel
theorem dX1_gainOf_1 : decode cX1_gainOf 1 = .ok (.iload_n 1, 1) := by decide +kernel
theorem dX1_gainOf_2 : decode cX1_gainOf 2 = .ok (.invokevirtual 211, 3) := by decide +kernel
theorem dX1_gainOf_5 : decode cX1_gainOf 5 = .ok (.lstore_n 2, 1) := by decide +kernel
theorem dX1_gainOf_6 : decode cX1_gainOf 6 = .ok (.aload_n 0, 1) := by decide +kernel
theorem dX1_gainOf_7 : decode cX1_gainOf 7 = .ok (.iload_n 1, 1) := by decide +kernel
theorem dX1_gainOf_8 : decode cX1_gainOf 8 = .ok (.invokevirtual 118, 3) := by decide +kernel
theorem dX1_gainOf_11 : decode cX1_gainOf 11 = .ok (.bipush 91, 2) := by decide +kernel
theorem dX1_gainOf_13 : decode cX1_gainOf 13 = .ok (.irem, 1) := by decide +kernel
theorem dX1_gainOf_14 : decode cX1_gainOf 14 = .ok (.invokestatic 73, 3) := by decide +kernel
theorem dX1_gainOf_17 : decode cX1_gainOf 17 = .ok (.istore 4, 2) := by decide +kernel
theorem dX1_gainOf_19 : decode cX1_gainOf 19 = .ok (.lload_n 2, 1) := by decide +kernel
theorem dX1_gainOf_20 : decode cX1_gainOf 20 = .ok (.invokestatic 197, 3) := by decide +kernel
theorem dX1_gainOf_23 : decode cX1_gainOf 23 = .ok (.invokestatic 143, 3) := by decide +kernel
theorem dX1_gainOf_26 : decode cX1_gainOf 26 = .ok (.invokestatic 221, 3) := by decide +kernel
theorem dX1_gainOf_29 : decode cX1_gainOf 29 = .ok (.istore 5, 2) := by decide +kernel
theorem dX1_gainOf_31 : decode cX1_gainOf 31 = .ok (.aload_n 0, 1) := by decide +kernel
theorem dX1_gainOf_32 : decode cX1_gainOf 32 = .ok (.getfield 12, 3) := by decide +kernel
theorem dX1_gainOf_35 : decode cX1_gainOf 35 = .ok (.iload 4, 2) := by decide +kernel
theorem dX1_gainOf_37 : decode cX1_gainOf 37 = .ok (.aload_n 0, 1) := by decide +kernel
theorem dX1_gainOf_38 : decode cX1_gainOf 38 = .ok (.getfield 18, 3) := by decide +kernel
theorem dX1_gainOf_41 : decode cX1_gainOf 41 = .ok (.invokevirtual 88, 3) := by decide +kernel
theorem dX1_gainOf_44 : decode cX1_gainOf 44 = .ok (.ifCond .le 23, 3) := by decide +kernel
theorem dX1_gainOf_47 : decode cX1_gainOf 47 = .ok (.iload 5, 2) := by decide +kernel
theorem dX1_gainOf_49 : decode cX1_gainOf 49 = .ok (.aload_n 0, 1) := by decide +kernel
theorem dX1_gainOf_50 : decode cX1_gainOf 50 = .ok (.getfield 12, 3) := by decide +kernel
theorem dX1_gainOf_53 : decode cX1_gainOf 53 = .ok (.iload 4, 2) := by decide +kernel
theorem dX1_gainOf_55 : decode cX1_gainOf 55 = .ok (.invokevirtual 85, 3) := by decide +kernel
theorem dX1_gainOf_58 : decode cX1_gainOf 58 = .ok (.invokestatic 143, 3) := by decide +kernel
theorem dX1_gainOf_61 : decode cX1_gainOf 61 = .ok (.invokestatic 221, 3) := by decide +kernel
theorem dX1_gainOf_64 : decode cX1_gainOf 64 = .ok (.isub, 1) := by decide +kernel
theorem dX1_gainOf_65 : decode cX1_gainOf 65 = .ok (.istore 5, 2) := by decide +kernel
theorem dX1_gainOf_67 : decode cX1_gainOf 67 = .ok (.aload_n 0, 1) := by decide +kernel
theorem dX1_gainOf_68 : decode cX1_gainOf 68 = .ok (.lload_n 2, 1) := by decide +kernel
theorem dX1_gainOf_69 : decode cX1_gainOf 69 = .ok (.invokevirtual 191, 3) := by decide +kernel
theorem dX1_gainOf_72 : decode cX1_gainOf 72 = .ok (.iload 5, 2) := by decide +kernel
theorem dX1_gainOf_74 : decode cX1_gainOf 74 = .ok (.ireturn, 1) := by decide +kernel
theorem dX1_dearestHanging_0 : decode cX1_dearestHanging 0 = .ok (.iconst (-1), 1) := by decide +kernel
theorem dX1_dearestHanging_1 : decode cX1_dearestHanging 1 = .ok (.istore_n 2, 1) := by decide +kernel
theorem dX1_dearestHanging_2 : decode cX1_dearestHanging 2 = .ok (.iconst 0, 1) := by decide +kernel
theorem dX1_dearestHanging_3 : decode cX1_dearestHanging 3 = .ok (.istore_n 3, 1) := by decide +kernel
theorem dX1_dearestHanging_4 : decode cX1_dearestHanging 4 = .ok (.iconst 0, 1) := by decide +kernel
theorem dX1_dearestHanging_5 : decode cX1_dearestHanging 5 = .ok (.istore 4, 2) := by decide +kernel
theorem dX1_dearestHanging_7 : decode cX1_dearestHanging 7 = .ok (.iload 4, 2) := by decide +kernel
theorem dX1_dearestHanging_9 : decode cX1_dearestHanging 9 = .ok (.bipush 91, 2) := by decide +kernel
theorem dX1_dearestHanging_11 : decode cX1_dearestHanging 11 = .ok (.if_icmp .ge 86, 3) := by decide +kernel
theorem dX1_dearestHanging_14 : decode cX1_dearestHanging 14 = .ok (.iload 4, 2) := by decide +kernel
theorem dX1_dearestHanging_16 : decode cX1_dearestHanging 16 = .ok (.invokestatic 73, 3) := by decide +kernel
theorem dX1_dearestHanging_19 : decode cX1_dearestHanging 19 = .ok (.istore 5, 2) := by decide +kernel
theorem dX1_dearestHanging_21 : decode cX1_dearestHanging 21 = .ok (.aload_n 0, 1) := by decide +kernel
theorem dX1_dearestHanging_22 : decode cX1_dearestHanging 22 = .ok (.getfield 12, 3) := by decide +kernel
theorem dX1_dearestHanging_25 : decode cX1_dearestHanging 25 = .ok (.iload 5, 2) := by decide +kernel
theorem dX1_dearestHanging_27 : decode cX1_dearestHanging 27 = .ok (.invokevirtual 85, 3) := by decide +kernel
theorem dX1_dearestHanging_30 : decode cX1_dearestHanging 30 = .ok (.istore 6, 2) := by decide +kernel
theorem dX1_dearestHanging_32 : decode cX1_dearestHanging 32 = .ok (.iload 6, 2) := by decide +kernel
theorem dX1_dearestHanging_34 : decode cX1_dearestHanging 34 = .ok (.invokestatic 143, 3) := by decide +kernel
theorem dX1_dearestHanging_37 : decode cX1_dearestHanging 37 = .ok (.invokestatic 221, 3) := by decide +kernel
theorem dX1_dearestHanging_40 : decode cX1_dearestHanging 40 = .ok (.istore 7, 2) := by decide +kernel
theorem dX1_dearestHanging_42 : decode cX1_dearestHanging 42 = .ok (.iload 6, 2) := by decide +kernel
theorem dX1_dearestHanging_44 : decode cX1_dearestHanging 44 = .ok (.invokestatic 140, 3) := by decide +kernel
theorem dX1_dearestHanging_47 : decode cX1_dearestHanging 47 = .ok (.iload_n 1, 1) := by decide +kernel
theorem dX1_dearestHanging_48 : decode cX1_dearestHanging 48 = .ok (.if_icmp .ne 43, 3) := by decide +kernel
theorem dX1_dearestHanging_51 : decode cX1_dearestHanging 51 = .ok (.iload 7, 2) := by decide +kernel
theorem dX1_dearestHanging_53 : decode cX1_dearestHanging 53 = .ok (.iload_n 3, 1) := by decide +kernel
theorem dX1_dearestHanging_54 : decode cX1_dearestHanging 54 = .ok (.if_icmp .le 37, 3) := by decide +kernel
theorem dX1_dearestHanging_57 : decode cX1_dearestHanging 57 = .ok (.aload_n 0, 1) := by decide +kernel
theorem dX1_dearestHanging_58 : decode cX1_dearestHanging 58 = .ok (.getfield 12, 3) := by decide +kernel
theorem dX1_dearestHanging_61 : decode cX1_dearestHanging 61 = .ok (.iload 5, 2) := by decide +kernel
theorem dX1_dearestHanging_63 : decode cX1_dearestHanging 63 = .ok (.iconst 1, 1) := by decide +kernel
theorem dX1_dearestHanging_64 : decode cX1_dearestHanging 64 = .ok (.iload_n 1, 1) := by decide +kernel
theorem dX1_dearestHanging_65 : decode cX1_dearestHanging 65 = .ok (.isub, 1) := by decide +kernel
theorem dX1_dearestHanging_66 : decode cX1_dearestHanging 66 = .ok (.invokevirtual 88, 3) := by decide +kernel
theorem dX1_dearestHanging_69 : decode cX1_dearestHanging 69 = .ok (.ifCond .le 22, 3) := by decide +kernel
theorem dX1_dearestHanging_72 : decode cX1_dearestHanging 72 = .ok (.aload_n 0, 1) := by decide +kernel
theorem dX1_dearestHanging_73 : decode cX1_dearestHanging 73 = .ok (.getfield 12, 3) := by decide +kernel
theorem dX1_dearestHanging_76 : decode cX1_dearestHanging 76 = .ok (.iload 5, 2) := by decide +kernel
theorem dX1_dearestHanging_78 : decode cX1_dearestHanging 78 = .ok (.iload_n 1, 1) := by decide +kernel
theorem dX1_dearestHanging_79 : decode cX1_dearestHanging 79 = .ok (.invokevirtual 88, 3) := by decide +kernel
theorem dX1_dearestHanging_82 : decode cX1_dearestHanging 82 = .ok (.ifCond .ne 9, 3) := by decide +kernel
theorem dX1_dearestHanging_85 : decode cX1_dearestHanging 85 = .ok (.iload 4, 2) := by decide +kernel
theorem dX1_dearestHanging_87 : decode cX1_dearestHanging 87 = .ok (.istore_n 2, 1) := by decide +kernel
theorem dX1_dearestHanging_88 : decode cX1_dearestHanging 88 = .ok (.iload 7, 2) := by decide +kernel
theorem dX1_dearestHanging_90 : decode cX1_dearestHanging 90 = .ok (.istore_n 3, 1) := by decide +kernel
theorem dX1_dearestHanging_91 : decode cX1_dearestHanging 91 = .ok (.iinc 4 1, 3) := by decide +kernel
theorem dX1_dearestHanging_94 : decode cX1_dearestHanging 94 = .ok (.goto (-87), 3) := by decide +kernel
theorem dX1_dearestHanging_97 : decode cX1_dearestHanging 97 = .ok (.iload_n 2, 1) := by decide +kernel
theorem dX1_dearestHanging_98 : decode cX1_dearestHanging 98 = .ok (.ireturn, 1) := by decide +kernel
theorem dX2_isSide_0 : decode cX2_isSide 0 = .ok (.aload_n 0, 1) := by decide +kernel
theorem dX2_isSide_1 : decode cX2_isSide 1 = .ok (.getstatic 21, 3) := by decide +kernel
theorem dX2_isSide_4 : decode cX2_isSide 4 = .ok (.if_acmp .eq 10, 3) := by decide +kernel
theorem dX2_isSide_7 : decode cX2_isSide 7 = .ok (.aload_n 0, 1) := by decide +kernel
theorem dX2_isSide_8 : decode cX2_isSide 8 = .ok (.getstatic 24, 3) := by decide +kernel
theorem dX2_isSide_11 : decode cX2_isSide 11 = .ok (.if_acmp .ne 7, 3) := by decide +kernel
theorem dX2_isSide_14 : decode cX2_isSide 14 = .ok (.iconst 1, 1) := by decide +kernel
theorem dX2_isSide_15 : decode cX2_isSide 15 = .ok (.goto 4, 3) := by decide +kernel
theorem dX2_isSide_18 : decode cX2_isSide 18 = .ok (.iconst 0, 1) := by decide +kernel
theorem dX2_isSide_19 : decode cX2_isSide 19 = .ok (.ireturn, 1) := by decide +kernel
theorem dX2_isPiece_0 : decode cX2_isPiece 0 = .ok (.aload_n 0, 1) := by decide +kernel
theorem dX2_isPiece_1 : decode cX2_isPiece 1 = .ok (.getfield 77, 3) := by decide +kernel
theorem dX2_isPiece_4 : decode cX2_isPiece 4 = .ok (.ifCond .eq 14, 3) := by decide +kernel
theorem dX2_isPiece_7 : decode cX2_isPiece 7 = .ok (.aload_n 0, 1) := by decide +kernel
theorem dX2_isPiece_8 : decode cX2_isPiece 8 = .ok (.invokevirtual 81, 3) := by decide +kernel
theorem dX2_isPiece_11 : decode cX2_isPiece 11 = .ok (.ifCond .ne 7, 3) := by decide +kernel
theorem dX2_isPiece_14 : decode cX2_isPiece 14 = .ok (.iconst 1, 1) := by decide +kernel
theorem dX2_isPiece_15 : decode cX2_isPiece 15 = .ok (.goto 4, 3) := by decide +kernel
theorem dX2_isPiece_18 : decode cX2_isPiece 18 = .ok (.iconst 0, 1) := by decide +kernel
theorem dX2_isPiece_19 : decode cX2_isPiece 19 = .ok (.ireturn, 1) := by decide +kernel
theorem dX3_init_0 : decode cX3_init 0 = .ok (.aload_n 0, 1) := by decide +kernel
theorem dX3_init_1 : decode cX3_init 1 = .ok (.invokespecial 3, 3) := by decide +kernel
theorem dX3_init_4 : decode cX3_init 4 = .ok (.aload_n 0, 1) := by decide +kernel
theorem dX3_init_5 : decode cX3_init 5 = .ok (.sipush 400, 3) := by decide +kernel
theorem dX3_init_8 : decode cX3_init 8 = .ok (.newarray .int, 2) := by decide +kernel
theorem dX3_init_10 : decode cX3_init 10 = .ok (.putfield 9, 3) := by decide +kernel
theorem dX3_init_13 : decode cX3_init 13 = .ok (.aload_n 0, 1) := by decide +kernel
theorem dX3_init_14 : decode cX3_init 14 = .ok (.sipush 400, 3) := by decide +kernel
theorem dX3_init_17 : decode cX3_init 17 = .ok (.newarray .int, 2) := by decide +kernel
theorem dX3_init_19 : decode cX3_init 19 = .ok (.putfield 15, 3) := by decide +kernel
theorem dX3_init_22 : decode cX3_init 22 = .ok (.aload_n 0, 1) := by decide +kernel
theorem dX3_init_23 : decode cX3_init 23 = .ok (.sipush 400, 3) := by decide +kernel
theorem dX3_init_26 : decode cX3_init 26 = .ok (.anewarray 18, 3) := by decide +kernel
theorem dX3_init_29 : decode cX3_init 29 = .ok (.putfield 20, 3) := by decide +kernel
theorem dX3_init_32 : decode cX3_init 32 = .ok (.aload_n 0, 1) := by decide +kernel
theorem dX3_init_33 : decode cX3_init 33 = .ok (.iconst 0, 1) := by decide +kernel
theorem dX3_init_34 : decode cX3_init 34 = .ok (.putfield 24, 3) := by decide +kernel
theorem dX3_init_37 : decode cX3_init 37 = .ok (.return_, 1) := by decide +kernel
theorem dX3_read_0 : decode cX3_read 0 = .ok (.aload_n 0, 1) := by decide +kernel
theorem dX3_read_1 : decode cX3_read 1 = .ok (.iconst 0, 1) := by decide +kernel
theorem dX3_read_2 : decode cX3_read 2 = .ok (.putfield 24, 3) := by decide +kernel
theorem dX3_read_5 : decode cX3_read 5 = .ok (.iconst 0, 1) := by decide +kernel
theorem dX3_read_6 : decode cX3_read 6 = .ok (.istore_n 2, 1) := by decide +kernel
theorem dX3_read_7 : decode cX3_read 7 = .ok (.aload_n 1, 1) := by decide +kernel
theorem dX3_read_8 : decode cX3_read 8 = .ok (.iconst 0, 1) := by decide +kernel
theorem dX3_read_9 : decode cX3_read 9 = .ok (.invokevirtual 28, 3) := by decide +kernel
theorem dX3_read_12 : decode cX3_read 12 = .ok (.istore_n 3, 1) := by decide +kernel
theorem dX3_read_13 : decode cX3_read 13 = .ok (.iconst 0, 1) := by decide +kernel
theorem dX3_read_14 : decode cX3_read 14 = .ok (.istore 4, 2) := by decide +kernel
theorem dX3_read_16 : decode cX3_read 16 = .ok (.iload 4, 2) := by decide +kernel
theorem dX3_read_18 : decode cX3_read 18 = .ok (.sipush 400, 3) := by decide +kernel
theorem dX3_read_21 : decode cX3_read 21 = .ok (.if_icmp .ge 69, 3) := by decide +kernel
theorem dX3_read_24 : decode cX3_read 24 = .ok (.iload_n 3, 1) := by decide +kernel
theorem dX3_read_25 : decode cX3_read 25 = .ok (.aload_n 1, 1) := by decide +kernel
theorem dX3_read_26 : decode cX3_read 26 = .ok (.getfield 34, 3) := by decide +kernel
theorem dX3_read_29 : decode cX3_read 29 = .ok (.if_icmp .ge 61, 3) := by decide +kernel
theorem dX3_read_32 : decode cX3_read 32 = .ok (.aload_n 1, 1) := by decide +kernel
theorem dX3_read_33 : decode cX3_read 33 = .ok (.iload_n 3, 1) := by decide +kernel
theorem dX3_read_34 : decode cX3_read 34 = .ok (.invokevirtual 37, 3) := by decide +kernel
theorem dX3_read_37 : decode cX3_read 37 = .ok (.istore 5, 2) := by decide +kernel
theorem dX3_read_39 : decode cX3_read 39 = .ok (.aload_n 1, 1) := by decide +kernel
theorem dX3_read_40 : decode cX3_read 40 = .ok (.iload_n 3, 1) := by decide +kernel
theorem dX3_read_41 : decode cX3_read 41 = .ok (.iload 5, 2) := by decide +kernel
theorem dX3_read_43 : decode cX3_read 43 = .ok (.invokestatic 40, 3) := by decide +kernel
theorem dX3_read_46 : decode cX3_read 46 = .ok (.astore 6, 2) := by decide +kernel
theorem dX3_read_48 : decode cX3_read 48 = .ok (.iload_n 2, 1) := by decide +kernel
theorem dX3_read_49 : decode cX3_read 49 = .ok (.aload 6, 2) := by decide +kernel
theorem dX3_read_51 : decode cX3_read 51 = .ok (.invokestatic 44, 3) := by decide +kernel
theorem dX3_read_54 : decode cX3_read 54 = .ok (.istore_n 2, 1) := by decide +kernel
theorem dX3_read_55 : decode cX3_read 55 = .ok (.iload_n 2, 1) := by decide +kernel
theorem dX3_read_56 : decode cX3_read 56 = .ok (.bipush 10, 2) := by decide +kernel
theorem dX3_read_58 : decode cX3_read 58 = .ok (.if_icmp .ne 5, 3) := by decide +kernel
theorem dX3_read_61 : decode cX3_read 61 = .ok (.iload_n 3, 1) := by decide +kernel
theorem dX3_read_62 : decode cX3_read 62 = .ok (.ireturn, 1) := by decide +kernel
theorem dX3_read_63 : decode cX3_read 63 = .ok (.aload_n 0, 1) := by decide +kernel
theorem dX3_read_64 : decode cX3_read 64 = .ok (.iload_n 3, 1) := by decide +kernel
theorem dX3_read_65 : decode cX3_read 65 = .ok (.aload 6, 2) := by decide +kernel
theorem dX3_read_67 : decode cX3_read 67 = .ok (.aload_n 1, 1) := by decide +kernel
theorem dX3_read_68 : decode cX3_read 68 = .ok (.iload_n 3, 1) := by decide +kernel
theorem dX3_read_69 : decode cX3_read 69 = .ok (.iload 5, 2) := by decide +kernel
theorem dX3_read_71 : decode cX3_read 71 = .ok (.invokevirtual 48, 3) := by decide +kernel
theorem dX3_read_74 : decode cX3_read 74 = .ok (.invokevirtual 52, 3) := by decide +kernel
theorem dX3_read_77 : decode cX3_read 77 = .ok (.aload_n 1, 1) := by decide +kernel
theorem dX3_read_78 : decode cX3_read 78 = .ok (.iload 5, 2) := by decide +kernel
theorem dX3_read_80 : decode cX3_read 80 = .ok (.invokevirtual 28, 3) := by decide +kernel
theorem dX3_read_83 : decode cX3_read 83 = .ok (.istore_n 3, 1) := by decide +kernel
theorem dX3_read_84 : decode cX3_read 84 = .ok (.iinc 4 1, 3) := by decide +kernel
theorem dX3_read_87 : decode cX3_read 87 = .ok (.goto (-71), 3) := by decide +kernel
theorem dX3_read_90 : decode cX3_read 90 = .ok (.iload_n 3, 1) := by decide +kernel
theorem dX3_read_91 : decode cX3_read 91 = .ok (.aload_n 1, 1) := by decide +kernel
theorem dX3_read_92 : decode cX3_read 92 = .ok (.getfield 34, 3) := by decide +kernel
theorem dX3_read_95 : decode cX3_read 95 = .ok (.if_icmp .lt 11, 3) := by decide +kernel
theorem dX3_read_98 : decode cX3_read 98 = .ok (.iload_n 2, 1) := by decide +kernel
theorem dX3_read_99 : decode cX3_read 99 = .ok (.ifCond .ne 7, 3) := by decide +kernel
theorem dX3_read_102 : decode cX3_read 102 = .ok (.iconst (-1), 1) := by decide +kernel
theorem dX3_read_103 : decode cX3_read 103 = .ok (.goto 4, 3) := by decide +kernel
theorem dX3_read_106 : decode cX3_read 106 = .ok (.iload_n 3, 1) := by decide +kernel
theorem dX3_read_107 : decode cX3_read 107 = .ok (.ireturn, 1) := by decide +kernel
theorem dX3_kindOfToken_0 : decode cX3_kindOfToken 0 = .ok (.iconst 0, 1) := by decide +kernel
theorem dX3_kindOfToken_1 : decode cX3_kindOfToken 1 = .ok (.istore_n 3, 1) := by decide +kernel
theorem dX3_kindOfToken_2 : decode cX3_kindOfToken 2 = .ok (.iload_n 3, 1) := by decide +kernel
theorem dX3_kindOfToken_3 : decode cX3_kindOfToken 3 = .ok (.getstatic 56, 3) := by decide +kernel
theorem dX3_kindOfToken_6 : decode cX3_kindOfToken 6 = .ok (.arraylength, 1) := by decide +kernel
theorem dX3_kindOfToken_7 : decode cX3_kindOfToken 7 = .ok (.if_icmp .ge 38, 3) := by decide +kernel
theorem dX3_kindOfToken_10 : decode cX3_kindOfToken 10 = .ok (.getstatic 56, 3) := by decide +kernel
theorem dX3_kindOfToken_13 : decode cX3_kindOfToken 13 = .ok (.iload_n 3, 1) := by decide +kernel
theorem dX3_kindOfToken_14 : decode cX3_kindOfToken 14 = .ok (.aaload, 1) := by decide +kernel
theorem dX3_kindOfToken_15 : decode cX3_kindOfToken 15 = .ok (.astore 4, 2) := by decide +kernel
theorem dX3_kindOfToken_17 : decode cX3_kindOfToken 17 = .ok (.aload 4, 2) := by decide +kernel
theorem dX3_kindOfToken_19 : decode cX3_kindOfToken 19 = .ok (.ifnull 20, 3) := by decide +kernel
theorem dX3_kindOfToken_22 : decode cX3_kindOfToken 22 = .ok (.aload_n 0, 1) := by decide +kernel
theorem dX3_kindOfToken_23 : decode cX3_kindOfToken 23 = .ok (.iload_n 1, 1) := by decide +kernel
theorem dX3_kindOfToken_24 : decode cX3_kindOfToken 24 = .ok (.iload_n 2, 1) := by decide +kernel
theorem dX3_kindOfToken_25 : decode cX3_kindOfToken 25 = .ok (.aload 4, 2) := by decide +kernel
theorem dX3_kindOfToken_27 : decode cX3_kindOfToken 27 = .ok (.getfield 59, 3) := by decide +kernel
theorem dX3_kindOfToken_30 : decode cX3_kindOfToken 30 = .ok (.invokevirtual 63, 3) := by decide +kernel
theorem dX3_kindOfToken_33 : decode cX3_kindOfToken 33 = .ok (.ifCond .eq 6, 3) := by decide +kernel
theorem dX3_kindOfToken_36 : decode cX3_kindOfToken 36 = .ok (.aload 4, 2) := by decide +kernel
theorem dX3_kindOfToken_38 : decode cX3_kindOfToken 38 = .ok (.areturn, 1) := by decide +kernel
theorem dX3_kindOfToken_39 : decode cX3_kindOfToken 39 = .ok (.iinc 3 1, 3) := by decide +kernel
theorem dX3_kindOfToken_42 : decode cX3_kindOfToken 42 = .ok (.goto (-40), 3) := by decide +kernel
theorem dX3_kindOfToken_45 : decode cX3_kindOfToken 45 = .ok (.aload_n 0, 1) := by decide +kernel
theorem dX3_kindOfToken_46 : decode cX3_kindOfToken 46 = .ok (.iload_n 1, 1) := by decide +kernel
theorem dX3_kindOfToken_47 : decode cX3_kindOfToken 47 = .ok (.invokevirtual 67, 3) := by decide +kernel
theorem dX3_kindOfToken_50 : decode cX3_kindOfToken 50 = .ok (.ifCond .eq 17, 3) := by decide +kernel
theorem dX3_kindOfToken_53 : decode cX3_kindOfToken 53 = .ok (.iload_n 2, 1) := by decide +kernel
theorem dX3_kindOfToken_54 : decode cX3_kindOfToken 54 = .ok (.iload_n 1, 1) := by decide +kernel
theorem dX3_kindOfToken_55 : decode cX3_kindOfToken 55 = .ok (.isub, 1) := by decide +kernel
theorem dX3_kindOfToken_56 : decode cX3_kindOfToken 56 = .ok (.bipush 10, 2) := by decide +kernel
theorem dX3_kindOfToken_58 : decode cX3_kindOfToken 58 = .ok (.if_icmp .gt 9, 3) := by decide +kernel
theorem dX3_kindOfToken_61 : decode cX3_kindOfToken 61 = .ok (.getstatic 71, 3) := by decide +kernel
theorem dX3_kindOfToken_64 : decode cX3_kindOfToken 64 = .ok (.goto 6, 3) := by decide +kernel
theorem dX3_kindOfToken_67 : decode cX3_kindOfToken 67 = .ok (.getstatic 75, 3) := by decide +kernel
theorem dX3_kindOfToken_70 : decode cX3_kindOfToken 70 = .ok (.areturn, 1) := by decide +kernel
theorem dX3_behind_0 : decode cX3_behind 0 = .ok (.iload_n 0, 1) := by decide +kernel
theorem dX3_behind_1 : decode cX3_behind 1 = .ok (.tableswitch 176 0 8 #[51, 56, 70, 84, 99, 114, 129, 144, 161], 51) := by decide +kernel
theorem dX3_behind_52 : decode cX3_behind 52 = .ok (.aload_n 1, 1) := by decide +kernel
theorem dX3_behind_53 : decode cX3_behind 53 = .ok (.invokestatic 78, 3) := by decide +kernel
theorem dX3_behind_56 : decode cX3_behind 56 = .ok (.ireturn, 1) := by decide +kernel
theorem dX3_behind_57 : decode cX3_behind 57 = .ok (.aload_n 1, 1) := by decide +kernel
theorem dX3_behind_58 : decode cX3_behind 58 = .ok (.invokevirtual 82, 3) := by decide +kernel
theorem dX3_behind_61 : decode cX3_behind 61 = .ok (.ifCond .eq 7, 3) := by decide +kernel
theorem dX3_behind_64 : decode cX3_behind 64 = .ok (.iconst 2, 1) := by decide +kernel
theorem dX3_behind_65 : decode cX3_behind 65 = .ok (.goto 5, 3) := by decide +kernel
theorem dX3_behind_68 : decode cX3_behind 68 = .ok (.bipush 10, 2) := by decide +kernel
theorem dX3_behind_70 : decode cX3_behind 70 = .ok (.ireturn, 1) := by decide +kernel
theorem dX3_behind_71 : decode cX3_behind 71 = .ok (.aload_n 1, 1) := by decide +kernel
theorem dX3_behind_72 : decode cX3_behind 72 = .ok (.invokevirtual 86, 3) := by decide +kernel
theorem dX3_behind_75 : decode cX3_behind 75 = .ok (.ifCond .eq 7, 3) := by decide +kernel
theorem dX3_behind_78 : decode cX3_behind 78 = .ok (.iconst 3, 1) := by decide +kernel
theorem dX3_behind_79 : decode cX3_behind 79 = .ok (.goto 5, 3) := by decide +kernel
theorem dX3_behind_82 : decode cX3_behind 82 = .ok (.bipush 10, 2) := by decide +kernel
theorem dX3_behind_84 : decode cX3_behind 84 = .ok (.ireturn, 1) := by decide +kernel
theorem dX3_behind_85 : decode cX3_behind 85 = .ok (.aload_n 1, 1) := by decide +kernel
theorem dX3_behind_86 : decode cX3_behind 86 = .ok (.getstatic 71, 3) := by decide +kernel
theorem dX3_behind_89 : decode cX3_behind 89 = .ok (.if_acmp .ne 8, 3) := by decide +kernel
theorem dX3_behind_92 : decode cX3_behind 92 = .ok (.bipush 9, 2) := by decide +kernel
theorem dX3_behind_94 : decode cX3_behind 94 = .ok (.goto 5, 3) := by decide +kernel
theorem dX3_behind_97 : decode cX3_behind 97 = .ok (.bipush 10, 2) := by decide +kernel
theorem dX3_behind_99 : decode cX3_behind 99 = .ok (.ireturn, 1) := by decide +kernel
theorem dX3_behind_100 : decode cX3_behind 100 = .ok (.aload_n 1, 1) := by decide +kernel
theorem dX3_behind_101 : decode cX3_behind 101 = .ok (.invokevirtual 82, 3) := by decide +kernel
theorem dX3_behind_104 : decode cX3_behind 104 = .ok (.ifCond .eq 8, 3) := by decide +kernel
theorem dX3_behind_107 : decode cX3_behind 107 = .ok (.bipush 9, 2) := by decide +kernel
theorem dX3_behind_109 : decode cX3_behind 109 = .ok (.goto 5, 3) := by decide +kernel
theorem dX3_behind_112 : decode cX3_behind 112 = .ok (.bipush 10, 2) := by decide +kernel
theorem dX3_behind_114 : decode cX3_behind 114 = .ok (.ireturn, 1) := by decide +kernel
theorem dX3_behind_115 : decode cX3_behind 115 = .ok (.aload_n 1, 1) := by decide +kernel
theorem dX3_behind_116 : decode cX3_behind 116 = .ok (.getstatic 71, 3) := by decide +kernel
theorem dX3_behind_119 : decode cX3_behind 119 = .ok (.if_acmp .ne 8, 3) := by decide +kernel
theorem dX3_behind_122 : decode cX3_behind 122 = .ok (.bipush 6, 2) := by decide +kernel
theorem dX3_behind_124 : decode cX3_behind 124 = .ok (.goto 5, 3) := by decide +kernel
theorem dX3_behind_127 : decode cX3_behind 127 = .ok (.bipush 10, 2) := by decide +kernel
theorem dX3_behind_129 : decode cX3_behind 129 = .ok (.ireturn, 1) := by decide +kernel
theorem dX3_behind_130 : decode cX3_behind 130 = .ok (.aload_n 1, 1) := by decide +kernel
theorem dX3_behind_131 : decode cX3_behind 131 = .ok (.getstatic 71, 3) := by decide +kernel
theorem dX3_behind_134 : decode cX3_behind 134 = .ok (.if_acmp .ne 8, 3) := by decide +kernel
theorem dX3_behind_137 : decode cX3_behind 137 = .ok (.bipush 7, 2) := by decide +kernel
theorem dX3_behind_139 : decode cX3_behind 139 = .ok (.goto 5, 3) := by decide +kernel
theorem dX3_behind_142 : decode cX3_behind 142 = .ok (.bipush 10, 2) := by decide +kernel
theorem dX3_behind_144 : decode cX3_behind 144 = .ok (.ireturn, 1) := by decide +kernel
theorem dX3_behind_145 : decode cX3_behind 145 = .ok (.aload_n 1, 1) := by decide +kernel
theorem dX3_behind_146 : decode cX3_behind 146 = .ok (.getstatic 89, 3) := by decide +kernel
theorem dX3_behind_149 : decode cX3_behind 149 = .ok (.if_acmp .ne 8, 3) := by decide +kernel
theorem dX3_behind_152 : decode cX3_behind 152 = .ok (.bipush 8, 2) := by decide +kernel
theorem dX3_behind_154 : decode cX3_behind 154 = .ok (.goto 7, 3) := by decide +kernel
theorem dX3_behind_157 : decode cX3_behind 157 = .ok (.aload_n 1, 1) := by decide +kernel
theorem dX3_behind_158 : decode cX3_behind 158 = .ok (.invokestatic 92, 3) := by decide +kernel
theorem dX3_behind_161 : decode cX3_behind 161 = .ok (.ireturn, 1) := by decide +kernel
theorem dX3_behind_162 : decode cX3_behind 162 = .ok (.aload_n 1, 1) := by decide +kernel
theorem dX3_behind_163 : decode cX3_behind 163 = .ok (.invokevirtual 86, 3) := by decide +kernel
theorem dX3_behind_166 : decode cX3_behind 166 = .ok (.ifCond .eq 8, 3) := by decide +kernel
theorem dX3_behind_169 : decode cX3_behind 169 = .ok (.bipush 9, 2) := by decide +kernel
theorem dX3_behind_171 : decode cX3_behind 171 = .ok (.goto 5, 3) := by decide +kernel
theorem dX3_behind_174 : decode cX3_behind 174 = .ok (.bipush 10, 2) := by decide +kernel
theorem dX3_behind_176 : decode cX3_behind 176 = .ok (.ireturn, 1) := by decide +kernel
theorem dX3_behind_177 : decode cX3_behind 177 = .ok (.aload_n 1, 1) := by decide +kernel
theorem dX3_behind_178 : decode cX3_behind 178 = .ok (.invokestatic 92, 3) := by decide +kernel
theorem dX3_behind_181 : decode cX3_behind 181 = .ok (.ireturn, 1) := by decide +kernel
theorem dX3_behindFirst_0 : decode cX3_behindFirst 0 = .ok (.aload_n 0, 1) := by decide +kernel
theorem dX3_behindFirst_1 : decode cX3_behindFirst 1 = .ok (.getstatic 95, 3) := by decide +kernel
theorem dX3_behindFirst_4 : decode cX3_behindFirst 4 = .ok (.if_acmp .ne 6, 3) := by decide +kernel
theorem dX3_behindFirst_7 : decode cX3_behindFirst 7 = .ok (.bipush 9, 2) := by decide +kernel
theorem dX3_behindFirst_9 : decode cX3_behindFirst 9 = .ok (.ireturn, 1) := by decide +kernel
theorem dX3_behindFirst_10 : decode cX3_behindFirst 10 = .ok (.aload_n 0, 1) := by decide +kernel
theorem dX3_behindFirst_11 : decode cX3_behindFirst 11 = .ok (.getstatic 98, 3) := by decide +kernel
theorem dX3_behindFirst_14 : decode cX3_behindFirst 14 = .ok (.if_acmp .ne 5, 3) := by decide +kernel
theorem dX3_behindFirst_17 : decode cX3_behindFirst 17 = .ok (.iconst 1, 1) := by decide +kernel
theorem dX3_behindFirst_18 : decode cX3_behindFirst 18 = .ok (.ireturn, 1) := by decide +kernel
theorem dX3_behindFirst_19 : decode cX3_behindFirst 19 = .ok (.aload_n 0, 1) := by decide +kernel
theorem dX3_behindFirst_20 : decode cX3_behindFirst 20 = .ok (.getstatic 101, 3) := by decide +kernel
theorem dX3_behindFirst_23 : decode cX3_behindFirst 23 = .ok (.if_acmp .ne 5, 3) := by decide +kernel
theorem dX3_behindFirst_26 : decode cX3_behindFirst 26 = .ok (.iconst 4, 1) := by decide +kernel
theorem dX3_behindFirst_27 : decode cX3_behindFirst 27 = .ok (.ireturn, 1) := by decide +kernel
theorem dX3_behindFirst_28 : decode cX3_behindFirst 28 = .ok (.aload_n 0, 1) := by decide +kernel
theorem dX3_behindFirst_29 : decode cX3_behindFirst 29 = .ok (.getstatic 104, 3) := by decide +kernel
theorem dX3_behindFirst_32 : decode cX3_behindFirst 32 = .ok (.if_acmp .ne 7, 3) := by decide +kernel
theorem dX3_behindFirst_35 : decode cX3_behindFirst 35 = .ok (.iconst 5, 1) := by decide +kernel
theorem dX3_behindFirst_36 : decode cX3_behindFirst 36 = .ok (.goto 5, 3) := by decide +kernel
theorem dX3_behindFirst_39 : decode cX3_behindFirst 39 = .ok (.bipush 10, 2) := by decide +kernel
theorem dX3_behindFirst_41 : decode cX3_behindFirst 41 = .ok (.ireturn, 1) := by decide +kernel
theorem dX3_behindLine_0 : decode cX3_behindLine 0 = .ok (.aload_n 0, 1) := by decide +kernel
theorem dX3_behindLine_1 : decode cX3_behindLine 1 = .ok (.getstatic 107, 3) := by decide +kernel
theorem dX3_behindLine_4 : decode cX3_behindLine 4 = .ok (.if_acmp .ne 7, 3) := by decide +kernel
theorem dX3_behindLine_7 : decode cX3_behindLine 7 = .ok (.iconst 0, 1) := by decide +kernel
theorem dX3_behindLine_8 : decode cX3_behindLine 8 = .ok (.goto 5, 3) := by decide +kernel
theorem dX3_behindLine_11 : decode cX3_behindLine 11 = .ok (.bipush 10, 2) := by decide +kernel
theorem dX3_behindLine_13 : decode cX3_behindLine 13 = .ok (.ireturn, 1) := by decide +kernel
theorem dX3_keep_0 : decode cX3_keep 0 = .ok (.aload_n 0, 1) := by decide +kernel
theorem dX3_keep_1 : decode cX3_keep 1 = .ok (.getfield 24, 3) := by decide +kernel
theorem dX3_keep_4 : decode cX3_keep 4 = .ok (.ifCond .lt 79, 3) := by decide +kernel
theorem dX3_keep_7 : decode cX3_keep 7 = .ok (.aload_n 0, 1) := by decide +kernel
theorem dX3_keep_8 : decode cX3_keep 8 = .ok (.getfield 24, 3) := by decide +kernel
theorem dX3_keep_11 : decode cX3_keep 11 = .ok (.aload_n 0, 1) := by decide +kernel
theorem dX3_keep_12 : decode cX3_keep 12 = .ok (.getfield 9, 3) := by decide +kernel
theorem dX3_keep_15 : decode cX3_keep 15 = .ok (.arraylength, 1) := by decide +kernel
theorem dX3_keep_16 : decode cX3_keep 16 = .ok (.if_icmp .ge 67, 3) := by decide +kernel
theorem dX3_keep_19 : decode cX3_keep 19 = .ok (.aload_n 0, 1) := by decide +kernel
theorem dX3_keep_20 : decode cX3_keep 20 = .ok (.getfield 24, 3) := by decide +kernel
theorem dX3_keep_23 : decode cX3_keep 23 = .ok (.aload_n 0, 1) := by decide +kernel
theorem dX3_keep_24 : decode cX3_keep 24 = .ok (.getfield 20, 3) := by decide +kernel
theorem dX3_keep_27 : decode cX3_keep 27 = .ok (.arraylength, 1) := by decide +kernel
theorem dX3_keep_28 : decode cX3_keep 28 = .ok (.if_icmp .ge 55, 3) := by decide +kernel
theorem dX3_keep_31 : decode cX3_keep 31 = .ok (.aload_n 0, 1) := by decide +kernel
theorem dX3_keep_32 : decode cX3_keep 32 = .ok (.getfield 24, 3) := by decide +kernel
theorem dX3_keep_35 : decode cX3_keep 35 = .ok (.aload_n 0, 1) := by decide +kernel
theorem dX3_keep_36 : decode cX3_keep 36 = .ok (.getfield 15, 3) := by decide +kernel
theorem dX3_keep_39 : decode cX3_keep 39 = .ok (.arraylength, 1) := by decide +kernel
theorem dX3_keep_40 : decode cX3_keep 40 = .ok (.if_icmp .ge 43, 3) := by decide +kernel
theorem dX3_keep_43 : decode cX3_keep 43 = .ok (.aload_n 0, 1) := by decide +kernel
theorem dX3_keep_44 : decode cX3_keep 44 = .ok (.getfield 9, 3) := by decide +kernel
theorem dX3_keep_47 : decode cX3_keep 47 = .ok (.aload_n 0, 1) := by decide +kernel
theorem dX3_keep_48 : decode cX3_keep 48 = .ok (.getfield 24, 3) := by decide +kernel
theorem dX3_keep_51 : decode cX3_keep 51 = .ok (.iload_n 1, 1) := by decide +kernel
theorem dX3_keep_52 : decode cX3_keep 52 = .ok (.iastore, 1) := by decide +kernel
theorem dX3_keep_53 : decode cX3_keep 53 = .ok (.aload_n 0, 1) := by decide +kernel
theorem dX3_keep_54 : decode cX3_keep 54 = .ok (.getfield 20, 3) := by decide +kernel
theorem dX3_keep_57 : decode cX3_keep 57 = .ok (.aload_n 0, 1) := by decide +kernel
theorem dX3_keep_58 : decode cX3_keep 58 = .ok (.getfield 24, 3) := by decide +kernel
theorem dX3_keep_61 : decode cX3_keep 61 = .ok (.aload_n 2, 1) := by decide +kernel
theorem dX3_keep_62 : decode cX3_keep 62 = .ok (.aastore, 1) := by decide +kernel
theorem dX3_keep_63 : decode cX3_keep 63 = .ok (.aload_n 0, 1) := by decide +kernel
theorem dX3_keep_64 : decode cX3_keep 64 = .ok (.getfield 15, 3) := by decide +kernel
theorem dX3_keep_67 : decode cX3_keep 67 = .ok (.aload_n 0, 1) := by decide +kernel
theorem dX3_keep_68 : decode cX3_keep 68 = .ok (.getfield 24, 3) := by decide +kernel
theorem dX3_keep_71 : decode cX3_keep 71 = .ok (.iload_n 3, 1) := by decide +kernel
theorem dX3_keep_72 : decode cX3_keep 72 = .ok (.iastore, 1) := by decide +kernel
theorem dX3_keep_73 : decode cX3_keep 73 = .ok (.aload_n 0, 1) := by decide +kernel
theorem dX3_keep_74 : decode cX3_keep 74 = .ok (.dup, 1) := by decide +kernel
theorem dX3_keep_75 : decode cX3_keep 75 = .ok (.getfield 24, 3) := by decide +kernel
theorem dX3_keep_78 : decode cX3_keep 78 = .ok (.iconst 1, 1) := by decide +kernel
theorem dX3_keep_79 : decode cX3_keep 79 = .ok (.iadd, 1) := by decide +kernel
theorem dX3_keep_80 : decode cX3_keep 80 = .ok (.putfield 24, 3) := by decide +kernel
theorem dX3_keep_83 : decode cX3_keep 83 = .ok (.return_, 1) := by decide +kernel
theorem dX3_startOf_0 : decode cX3_startOf 0 = .ok (.iload_n 1, 1) := by decide +kernel
theorem dX3_startOf_1 : decode cX3_startOf 1 = .ok (.ifCond .lt 21, 3) := by decide +kernel
theorem dX3_startOf_4 : decode cX3_startOf 4 = .ok (.iload_n 1, 1) := by decide +kernel
theorem dX3_startOf_5 : decode cX3_startOf 5 = .ok (.aload_n 0, 1) := by decide +kernel
theorem dX3_startOf_6 : decode cX3_startOf 6 = .ok (.getfield 9, 3) := by decide +kernel
theorem dX3_startOf_9 : decode cX3_startOf 9 = .ok (.arraylength, 1) := by decide +kernel
theorem dX3_startOf_10 : decode cX3_startOf 10 = .ok (.if_icmp .ge 12, 3) := by decide +kernel
theorem dX3_startOf_13 : decode cX3_startOf 13 = .ok (.aload_n 0, 1) := by decide +kernel
theorem dX3_startOf_14 : decode cX3_startOf 14 = .ok (.getfield 9, 3) := by decide +kernel
theorem dX3_startOf_17 : decode cX3_startOf 17 = .ok (.iload_n 1, 1) := by decide +kernel
theorem dX3_startOf_18 : decode cX3_startOf 18 = .ok (.iaload, 1) := by decide +kernel
theorem dX3_startOf_19 : decode cX3_startOf 19 = .ok (.goto 4, 3) := by decide +kernel
theorem dX3_startOf_22 : decode cX3_startOf 22 = .ok (.iconst (-1), 1) := by decide +kernel
theorem dX3_startOf_23 : decode cX3_startOf 23 = .ok (.ireturn, 1) := by decide +kernel
theorem dX3_cellOfToken_0 : decode cX3_cellOfToken 0 = .ok (.iload_n 1, 1) := by decide +kernel
theorem dX3_cellOfToken_1 : decode cX3_cellOfToken 1 = .ok (.ifCond .lt 21, 3) := by decide +kernel
theorem dX3_cellOfToken_4 : decode cX3_cellOfToken 4 = .ok (.iload_n 1, 1) := by decide +kernel
theorem dX3_cellOfToken_5 : decode cX3_cellOfToken 5 = .ok (.aload_n 0, 1) := by decide +kernel
theorem dX3_cellOfToken_6 : decode cX3_cellOfToken 6 = .ok (.getfield 15, 3) := by decide +kernel
theorem dX3_cellOfToken_9 : decode cX3_cellOfToken 9 = .ok (.arraylength, 1) := by decide +kernel
theorem dX3_cellOfToken_10 : decode cX3_cellOfToken 10 = .ok (.if_icmp .ge 12, 3) := by decide +kernel
theorem dX3_cellOfToken_13 : decode cX3_cellOfToken 13 = .ok (.aload_n 0, 1) := by decide +kernel
theorem dX3_cellOfToken_14 : decode cX3_cellOfToken 14 = .ok (.getfield 15, 3) := by decide +kernel
theorem dX3_cellOfToken_17 : decode cX3_cellOfToken 17 = .ok (.iload_n 1, 1) := by decide +kernel
theorem dX3_cellOfToken_18 : decode cX3_cellOfToken 18 = .ok (.iaload, 1) := by decide +kernel
theorem dX3_cellOfToken_19 : decode cX3_cellOfToken 19 = .ok (.goto 4, 3) := by decide +kernel
theorem dX3_cellOfToken_22 : decode cX3_cellOfToken 22 = .ok (.iconst (-1), 1) := by decide +kernel
theorem dX3_cellOfToken_23 : decode cX3_cellOfToken 23 = .ok (.ireturn, 1) := by decide +kernel
theorem dX3_kindAt_0 : decode cX3_kindAt 0 = .ok (.iload_n 1, 1) := by decide +kernel
theorem dX3_kindAt_1 : decode cX3_kindAt 1 = .ok (.ifCond .lt 29, 3) := by decide +kernel
theorem dX3_kindAt_4 : decode cX3_kindAt 4 = .ok (.iload_n 1, 1) := by decide +kernel
theorem dX3_kindAt_5 : decode cX3_kindAt 5 = .ok (.aload_n 0, 1) := by decide +kernel
theorem dX3_kindAt_6 : decode cX3_kindAt 6 = .ok (.getfield 24, 3) := by decide +kernel
theorem dX3_kindAt_9 : decode cX3_kindAt 9 = .ok (.if_icmp .ge 21, 3) := by decide +kernel
theorem dX3_kindAt_12 : decode cX3_kindAt 12 = .ok (.iload_n 1, 1) := by decide +kernel
theorem dX3_kindAt_13 : decode cX3_kindAt 13 = .ok (.aload_n 0, 1) := by decide +kernel
theorem dX3_kindAt_14 : decode cX3_kindAt 14 = .ok (.getfield 20, 3) := by decide +kernel
theorem dX3_kindAt_17 : decode cX3_kindAt 17 = .ok (.arraylength, 1) := by decide +kernel
theorem dX3_kindAt_18 : decode cX3_kindAt 18 = .ok (.if_icmp .ge 12, 3) := by decide +kernel
theorem dX3_kindAt_21 : decode cX3_kindAt 21 = .ok (.aload_n 0, 1) := by decide +kernel
theorem dX3_kindAt_22 : decode cX3_kindAt 22 = .ok (.getfield 20, 3) := by decide +kernel
theorem dX3_kindAt_25 : decode cX3_kindAt 25 = .ok (.iload_n 1, 1) := by decide +kernel
theorem dX3_kindAt_26 : decode cX3_kindAt 26 = .ok (.aaload, 1) := by decide +kernel
theorem dX3_kindAt_27 : decode cX3_kindAt 27 = .ok (.goto 6, 3) := by decide +kernel
theorem dX3_kindAt_30 : decode cX3_kindAt 30 = .ok (.getstatic 75, 3) := by decide +kernel
theorem dX3_kindAt_33 : decode cX3_kindAt 33 = .ok (.astore_n 2, 1) := by decide +kernel
theorem dX3_kindAt_34 : decode cX3_kindAt 34 = .ok (.aload_n 2, 1) := by decide +kernel
theorem dX3_kindAt_35 : decode cX3_kindAt 35 = .ok (.ifnonnull 9, 3) := by decide +kernel
theorem dX3_kindAt_38 : decode cX3_kindAt 38 = .ok (.getstatic 75, 3) := by decide +kernel
theorem dX3_kindAt_41 : decode cX3_kindAt 41 = .ok (.goto 4, 3) := by decide +kernel
theorem dX3_kindAt_44 : decode cX3_kindAt 44 = .ok (.aload_n 2, 1) := by decide +kernel
theorem dX3_kindAt_45 : decode cX3_kindAt 45 = .ok (.areturn, 1) := by decide +kernel
theorem dX4_init_0 : decode cX4_init 0 = .ok (.aload_n 0, 1) := by decide +kernel
theorem dX4_init_1 : decode cX4_init 1 = .ok (.invokespecial 3, 3) := by decide +kernel
theorem dX4_init_4 : decode cX4_init 4 = .ok (.aload_n 0, 1) := by decide +kernel
theorem dX4_init_5 : decode cX4_init 5 = .ok (.sipush 2000, 3) := by decide +kernel
theorem dX4_init_8 : decode cX4_init 8 = .ok (.newarray .int, 2) := by decide +kernel
theorem dX4_init_10 : decode cX4_init 10 = .ok (.putfield 9, 3) := by decide +kernel
theorem dX4_init_13 : decode cX4_init 13 = .ok (.aload_n 0, 1) := by decide +kernel
theorem dX4_init_14 : decode cX4_init 14 = .ok (.iconst 0, 1) := by decide +kernel
theorem dX4_init_15 : decode cX4_init 15 = .ok (.putfield 15, 3) := by decide +kernel
theorem dX4_init_18 : decode cX4_init 18 = .ok (.return_, 1) := by decide +kernel
theorem dX4_append_0 : decode cX4_append 0 = .ok (.aload_n 0, 1) := by decide +kernel
theorem dX4_append_1 : decode cX4_append 1 = .ok (.iload_n 1, 1) := by decide +kernel
theorem dX4_append_2 : decode cX4_append 2 = .ok (.bipush 24, 2) := by decide +kernel
theorem dX4_append_4 : decode cX4_append 4 = .ok (.iushr, 1) := by decide +kernel
theorem dX4_append_5 : decode cX4_append 5 = .ok (.invokevirtual 19, 3) := by decide +kernel
theorem dX4_append_8 : decode cX4_append 8 = .ok (.aload_n 0, 1) := by decide +kernel
theorem dX4_append_9 : decode cX4_append 9 = .ok (.iload_n 1, 1) := by decide +kernel
theorem dX4_append_10 : decode cX4_append 10 = .ok (.bipush 16, 2) := by decide +kernel
theorem dX4_append_12 : decode cX4_append 12 = .ok (.iushr, 1) := by decide +kernel
theorem dX4_append_13 : decode cX4_append 13 = .ok (.sipush 255, 3) := by decide +kernel
theorem dX4_append_16 : decode cX4_append 16 = .ok (.iand, 1) := by decide +kernel
theorem dX4_append_17 : decode cX4_append 17 = .ok (.invokevirtual 19, 3) := by decide +kernel
theorem dX4_append_20 : decode cX4_append 20 = .ok (.aload_n 0, 1) := by decide +kernel
theorem dX4_append_21 : decode cX4_append 21 = .ok (.iload_n 1, 1) := by decide +kernel
theorem dX4_append_22 : decode cX4_append 22 = .ok (.bipush 8, 2) := by decide +kernel
theorem dX4_append_24 : decode cX4_append 24 = .ok (.iushr, 1) := by decide +kernel
theorem dX4_append_25 : decode cX4_append 25 = .ok (.sipush 255, 3) := by decide +kernel
theorem dX4_append_28 : decode cX4_append 28 = .ok (.iand, 1) := by decide +kernel
theorem dX4_append_29 : decode cX4_append 29 = .ok (.invokevirtual 19, 3) := by decide +kernel
theorem dX4_append_32 : decode cX4_append 32 = .ok (.aload_n 0, 1) := by decide +kernel
theorem dX4_append_33 : decode cX4_append 33 = .ok (.iload_n 1, 1) := by decide +kernel
theorem dX4_append_34 : decode cX4_append 34 = .ok (.sipush 255, 3) := by decide +kernel
theorem dX4_append_37 : decode cX4_append 37 = .ok (.iand, 1) := by decide +kernel
theorem dX4_append_38 : decode cX4_append 38 = .ok (.invokevirtual 19, 3) := by decide +kernel
theorem dX4_append_41 : decode cX4_append 41 = .ok (.return_, 1) := by decide +kernel
theorem dX4_appendByte_0 : decode cX4_appendByte 0 = .ok (.aload_n 0, 1) := by decide +kernel
theorem dX4_appendByte_1 : decode cX4_appendByte 1 = .ok (.getfield 15, 3) := by decide +kernel
theorem dX4_appendByte_4 : decode cX4_appendByte 4 = .ok (.ifCond .lt 35, 3) := by decide +kernel
theorem dX4_appendByte_7 : decode cX4_appendByte 7 = .ok (.aload_n 0, 1) := by decide +kernel
theorem dX4_appendByte_8 : decode cX4_appendByte 8 = .ok (.getfield 15, 3) := by decide +kernel
theorem dX4_appendByte_11 : decode cX4_appendByte 11 = .ok (.aload_n 0, 1) := by decide +kernel
theorem dX4_appendByte_12 : decode cX4_appendByte 12 = .ok (.getfield 9, 3) := by decide +kernel
theorem dX4_appendByte_15 : decode cX4_appendByte 15 = .ok (.arraylength, 1) := by decide +kernel
theorem dX4_appendByte_16 : decode cX4_appendByte 16 = .ok (.if_icmp .ge 23, 3) := by decide +kernel
theorem dX4_appendByte_19 : decode cX4_appendByte 19 = .ok (.aload_n 0, 1) := by decide +kernel
theorem dX4_appendByte_20 : decode cX4_appendByte 20 = .ok (.getfield 9, 3) := by decide +kernel
theorem dX4_appendByte_23 : decode cX4_appendByte 23 = .ok (.aload_n 0, 1) := by decide +kernel
theorem dX4_appendByte_24 : decode cX4_appendByte 24 = .ok (.getfield 15, 3) := by decide +kernel
theorem dX4_appendByte_27 : decode cX4_appendByte 27 = .ok (.iload_n 1, 1) := by decide +kernel
theorem dX4_appendByte_28 : decode cX4_appendByte 28 = .ok (.iastore, 1) := by decide +kernel
theorem dX4_appendByte_29 : decode cX4_appendByte 29 = .ok (.aload_n 0, 1) := by decide +kernel
theorem dX4_appendByte_30 : decode cX4_appendByte 30 = .ok (.dup, 1) := by decide +kernel
theorem dX4_appendByte_31 : decode cX4_appendByte 31 = .ok (.getfield 15, 3) := by decide +kernel
theorem dX4_appendByte_34 : decode cX4_appendByte 34 = .ok (.iconst 1, 1) := by decide +kernel
theorem dX4_appendByte_35 : decode cX4_appendByte 35 = .ok (.iadd, 1) := by decide +kernel
theorem dX4_appendByte_36 : decode cX4_appendByte 36 = .ok (.putfield 15, 3) := by decide +kernel
theorem dX4_appendByte_39 : decode cX4_appendByte 39 = .ok (.return_, 1) := by decide +kernel
theorem dX4_shorten_0 : decode cX4_shorten 0 = .ok (.aload_n 0, 1) := by decide +kernel
theorem dX4_shorten_1 : decode cX4_shorten 1 = .ok (.iload_n 1, 1) := by decide +kernel
theorem dX4_shorten_2 : decode cX4_shorten 2 = .ok (.putfield 15, 3) := by decide +kernel
theorem dX4_shorten_5 : decode cX4_shorten 5 = .ok (.return_, 1) := by decide +kernel
theorem dX4_byteAt_0 : decode cX4_byteAt 0 = .ok (.iload_n 1, 1) := by decide +kernel
theorem dX4_byteAt_1 : decode cX4_byteAt 1 = .ok (.ifCond .lt 29, 3) := by decide +kernel
theorem dX4_byteAt_4 : decode cX4_byteAt 4 = .ok (.iload_n 1, 1) := by decide +kernel
theorem dX4_byteAt_5 : decode cX4_byteAt 5 = .ok (.aload_n 0, 1) := by decide +kernel
theorem dX4_byteAt_6 : decode cX4_byteAt 6 = .ok (.getfield 15, 3) := by decide +kernel
theorem dX4_byteAt_9 : decode cX4_byteAt 9 = .ok (.if_icmp .ge 21, 3) := by decide +kernel
theorem dX4_byteAt_12 : decode cX4_byteAt 12 = .ok (.iload_n 1, 1) := by decide +kernel
theorem dX4_byteAt_13 : decode cX4_byteAt 13 = .ok (.aload_n 0, 1) := by decide +kernel
theorem dX4_byteAt_14 : decode cX4_byteAt 14 = .ok (.getfield 9, 3) := by decide +kernel
theorem dX4_byteAt_17 : decode cX4_byteAt 17 = .ok (.arraylength, 1) := by decide +kernel
theorem dX4_byteAt_18 : decode cX4_byteAt 18 = .ok (.if_icmp .ge 12, 3) := by decide +kernel
theorem dX4_byteAt_21 : decode cX4_byteAt 21 = .ok (.aload_n 0, 1) := by decide +kernel
theorem dX4_byteAt_22 : decode cX4_byteAt 22 = .ok (.getfield 9, 3) := by decide +kernel
theorem dX4_byteAt_25 : decode cX4_byteAt 25 = .ok (.iload_n 1, 1) := by decide +kernel
theorem dX4_byteAt_26 : decode cX4_byteAt 26 = .ok (.iaload, 1) := by decide +kernel
theorem dX4_byteAt_27 : decode cX4_byteAt 27 = .ok (.goto 4, 3) := by decide +kernel
theorem dX4_byteAt_30 : decode cX4_byteAt 30 = .ok (.iconst (-1), 1) := by decide +kernel
theorem dX4_byteAt_31 : decode cX4_byteAt 31 = .ok (.ireturn, 1) := by decide +kernel
theorem dX4_isLetter_0 : decode cX4_isLetter 0 = .ok (.aload_n 0, 1) := by decide +kernel
theorem dX4_isLetter_1 : decode cX4_isLetter 1 = .ok (.iload_n 1, 1) := by decide +kernel
theorem dX4_isLetter_2 : decode cX4_isLetter 2 = .ok (.invokevirtual 23, 3) := by decide +kernel
theorem dX4_isLetter_5 : decode cX4_isLetter 5 = .ok (.bipush 97, 2) := by decide +kernel
theorem dX4_isLetter_7 : decode cX4_isLetter 7 = .ok (.if_icmp .lt 17, 3) := by decide +kernel
theorem dX4_isLetter_10 : decode cX4_isLetter 10 = .ok (.aload_n 0, 1) := by decide +kernel
theorem dX4_isLetter_11 : decode cX4_isLetter 11 = .ok (.iload_n 1, 1) := by decide +kernel
theorem dX4_isLetter_12 : decode cX4_isLetter 12 = .ok (.invokevirtual 23, 3) := by decide +kernel
theorem dX4_isLetter_15 : decode cX4_isLetter 15 = .ok (.bipush 122, 2) := by decide +kernel
theorem dX4_isLetter_17 : decode cX4_isLetter 17 = .ok (.if_icmp .gt 7, 3) := by decide +kernel
theorem dX4_isLetter_20 : decode cX4_isLetter 20 = .ok (.iconst 1, 1) := by decide +kernel
theorem dX4_isLetter_21 : decode cX4_isLetter 21 = .ok (.goto 4, 3) := by decide +kernel
theorem dX4_isLetter_24 : decode cX4_isLetter 24 = .ok (.iconst 0, 1) := by decide +kernel
theorem dX4_isLetter_25 : decode cX4_isLetter 25 = .ok (.ireturn, 1) := by decide +kernel
theorem dX4_isDigit_0 : decode cX4_isDigit 0 = .ok (.aload_n 0, 1) := by decide +kernel
theorem dX4_isDigit_1 : decode cX4_isDigit 1 = .ok (.iload_n 1, 1) := by decide +kernel
theorem dX4_isDigit_2 : decode cX4_isDigit 2 = .ok (.invokevirtual 23, 3) := by decide +kernel
theorem dX4_isDigit_5 : decode cX4_isDigit 5 = .ok (.bipush 48, 2) := by decide +kernel
theorem dX4_isDigit_7 : decode cX4_isDigit 7 = .ok (.if_icmp .lt 17, 3) := by decide +kernel
theorem dX4_isDigit_10 : decode cX4_isDigit 10 = .ok (.aload_n 0, 1) := by decide +kernel
theorem dX4_isDigit_11 : decode cX4_isDigit 11 = .ok (.iload_n 1, 1) := by decide +kernel
theorem dX4_isDigit_12 : decode cX4_isDigit 12 = .ok (.invokevirtual 23, 3) := by decide +kernel
theorem dX4_isDigit_15 : decode cX4_isDigit 15 = .ok (.bipush 57, 2) := by decide +kernel
theorem dX4_isDigit_17 : decode cX4_isDigit 17 = .ok (.if_icmp .gt 7, 3) := by decide +kernel
theorem dX4_isDigit_20 : decode cX4_isDigit 20 = .ok (.iconst 1, 1) := by decide +kernel
theorem dX4_isDigit_21 : decode cX4_isDigit 21 = .ok (.goto 4, 3) := by decide +kernel
theorem dX4_isDigit_24 : decode cX4_isDigit 24 = .ok (.iconst 0, 1) := by decide +kernel
theorem dX4_isDigit_25 : decode cX4_isDigit 25 = .ok (.ireturn, 1) := by decide +kernel
theorem dX4_behindBlanks_0 : decode cX4_behindBlanks 0 = .ok (.iload_n 1, 1) := by decide +kernel
theorem dX4_behindBlanks_1 : decode cX4_behindBlanks 1 = .ok (.istore_n 2, 1) := by decide +kernel
theorem dX4_behindBlanks_2 : decode cX4_behindBlanks 2 = .ok (.iconst 0, 1) := by decide +kernel
theorem dX4_behindBlanks_3 : decode cX4_behindBlanks 3 = .ok (.istore_n 3, 1) := by decide +kernel
theorem dX4_behindBlanks_4 : decode cX4_behindBlanks 4 = .ok (.iload_n 3, 1) := by decide +kernel
theorem dX4_behindBlanks_5 : decode cX4_behindBlanks 5 = .ok (.sipush 2000, 3) := by decide +kernel
theorem dX4_behindBlanks_8 : decode cX4_behindBlanks 8 = .ok (.if_icmp .ge 35, 3) := by decide +kernel
theorem dX4_behindBlanks_11 : decode cX4_behindBlanks 11 = .ok (.aload_n 0, 1) := by decide +kernel
theorem dX4_behindBlanks_12 : decode cX4_behindBlanks 12 = .ok (.iload_n 2, 1) := by decide +kernel
theorem dX4_behindBlanks_13 : decode cX4_behindBlanks 13 = .ok (.invokevirtual 23, 3) := by decide +kernel
theorem dX4_behindBlanks_16 : decode cX4_behindBlanks 16 = .ok (.bipush 32, 2) := by decide +kernel
theorem dX4_behindBlanks_18 : decode cX4_behindBlanks 18 = .ok (.if_icmp .eq 16, 3) := by decide +kernel
theorem dX4_behindBlanks_21 : decode cX4_behindBlanks 21 = .ok (.aload_n 0, 1) := by decide +kernel
theorem dX4_behindBlanks_22 : decode cX4_behindBlanks 22 = .ok (.iload_n 2, 1) := by decide +kernel
theorem dX4_behindBlanks_23 : decode cX4_behindBlanks 23 = .ok (.invokevirtual 23, 3) := by decide +kernel
theorem dX4_behindBlanks_26 : decode cX4_behindBlanks 26 = .ok (.bipush 10, 2) := by decide +kernel
theorem dX4_behindBlanks_28 : decode cX4_behindBlanks 28 = .ok (.if_icmp .eq 6, 3) := by decide +kernel
theorem dX4_behindBlanks_31 : decode cX4_behindBlanks 31 = .ok (.goto 12, 3) := by decide +kernel
theorem dX4_behindBlanks_34 : decode cX4_behindBlanks 34 = .ok (.iinc 2 1, 3) := by decide +kernel
theorem dX4_behindBlanks_37 : decode cX4_behindBlanks 37 = .ok (.iinc 3 1, 3) := by decide +kernel
theorem dX4_behindBlanks_40 : decode cX4_behindBlanks 40 = .ok (.goto (-36), 3) := by decide +kernel
theorem dX4_behindBlanks_43 : decode cX4_behindBlanks 43 = .ok (.iload_n 2, 1) := by decide +kernel
theorem dX4_behindBlanks_44 : decode cX4_behindBlanks 44 = .ok (.ireturn, 1) := by decide +kernel
theorem dX4_behindToken_0 : decode cX4_behindToken 0 = .ok (.aload_n 0, 1) := by decide +kernel
theorem dX4_behindToken_1 : decode cX4_behindToken 1 = .ok (.iload_n 1, 1) := by decide +kernel
theorem dX4_behindToken_2 : decode cX4_behindToken 2 = .ok (.invokevirtual 27, 3) := by decide +kernel
theorem dX4_behindToken_5 : decode cX4_behindToken 5 = .ok (.ifCond .ne 7, 3) := by decide +kernel
theorem dX4_behindToken_8 : decode cX4_behindToken 8 = .ok (.iload_n 1, 1) := by decide +kernel
theorem dX4_behindToken_9 : decode cX4_behindToken 9 = .ok (.iconst 1, 1) := by decide +kernel
theorem dX4_behindToken_10 : decode cX4_behindToken 10 = .ok (.iadd, 1) := by decide +kernel
theorem dX4_behindToken_11 : decode cX4_behindToken 11 = .ok (.ireturn, 1) := by decide +kernel
theorem dX4_behindToken_12 : decode cX4_behindToken 12 = .ok (.iload_n 1, 1) := by decide +kernel
theorem dX4_behindToken_13 : decode cX4_behindToken 13 = .ok (.iconst 1, 1) := by decide +kernel
theorem dX4_behindToken_14 : decode cX4_behindToken 14 = .ok (.iadd, 1) := by decide +kernel
theorem dX4_behindToken_15 : decode cX4_behindToken 15 = .ok (.istore_n 2, 1) := by decide +kernel
theorem dX4_behindToken_16 : decode cX4_behindToken 16 = .ok (.iconst 0, 1) := by decide +kernel
theorem dX4_behindToken_17 : decode cX4_behindToken 17 = .ok (.istore_n 3, 1) := by decide +kernel
theorem dX4_behindToken_18 : decode cX4_behindToken 18 = .ok (.iload_n 3, 1) := by decide +kernel
theorem dX4_behindToken_19 : decode cX4_behindToken 19 = .ok (.sipush 2000, 3) := by decide +kernel
theorem dX4_behindToken_22 : decode cX4_behindToken 22 = .ok (.if_icmp .ge 28, 3) := by decide +kernel
theorem dX4_behindToken_25 : decode cX4_behindToken 25 = .ok (.aload_n 0, 1) := by decide +kernel
theorem dX4_behindToken_26 : decode cX4_behindToken 26 = .ok (.iload_n 2, 1) := by decide +kernel
theorem dX4_behindToken_27 : decode cX4_behindToken 27 = .ok (.invokevirtual 27, 3) := by decide +kernel
theorem dX4_behindToken_30 : decode cX4_behindToken 30 = .ok (.ifCond .ne 11, 3) := by decide +kernel
theorem dX4_behindToken_33 : decode cX4_behindToken 33 = .ok (.aload_n 0, 1) := by decide +kernel
theorem dX4_behindToken_34 : decode cX4_behindToken 34 = .ok (.iload_n 2, 1) := by decide +kernel
theorem dX4_behindToken_35 : decode cX4_behindToken 35 = .ok (.invokevirtual 31, 3) := by decide +kernel
theorem dX4_behindToken_38 : decode cX4_behindToken 38 = .ok (.ifCond .eq 12, 3) := by decide +kernel
theorem dX4_behindToken_41 : decode cX4_behindToken 41 = .ok (.iinc 2 1, 3) := by decide +kernel
theorem dX4_behindToken_44 : decode cX4_behindToken 44 = .ok (.iinc 3 1, 3) := by decide +kernel
theorem dX4_behindToken_47 : decode cX4_behindToken 47 = .ok (.goto (-29), 3) := by decide +kernel
theorem dX4_behindToken_50 : decode cX4_behindToken 50 = .ok (.iload_n 2, 1) := by decide +kernel
theorem dX4_behindToken_51 : decode cX4_behindToken 51 = .ok (.ireturn, 1) := by decide +kernel
theorem dX4_spells_0 : decode cX4_spells 0 = .ok (.aload_n 3, 1) := by decide +kernel
theorem dX4_spells_1 : decode cX4_spells 1 = .ok (.ifnull 13, 3) := by decide +kernel
theorem dX4_spells_4 : decode cX4_spells 4 = .ok (.iload_n 2, 1) := by decide +kernel
theorem dX4_spells_5 : decode cX4_spells 5 = .ok (.iload_n 1, 1) := by decide +kernel
theorem dX4_spells_6 : decode cX4_spells 6 = .ok (.isub, 1) := by decide +kernel
theorem dX4_spells_7 : decode cX4_spells 7 = .ok (.aload_n 3, 1) := by decide +kernel
theorem dX4_spells_8 : decode cX4_spells 8 = .ok (.invokevirtual 34, 3) := by decide +kernel
theorem dX4_spells_11 : decode cX4_spells 11 = .ok (.if_icmp .eq 5, 3) := by decide +kernel
theorem dX4_spells_14 : decode cX4_spells 14 = .ok (.iconst 0, 1) := by decide +kernel
theorem dX4_spells_15 : decode cX4_spells 15 = .ok (.ireturn, 1) := by decide +kernel
theorem dX4_spells_16 : decode cX4_spells 16 = .ok (.iconst 0, 1) := by decide +kernel
theorem dX4_spells_17 : decode cX4_spells 17 = .ok (.istore 4, 2) := by decide +kernel
theorem dX4_spells_19 : decode cX4_spells 19 = .ok (.iload 4, 2) := by decide +kernel
theorem dX4_spells_21 : decode cX4_spells 21 = .ok (.aload_n 3, 1) := by decide +kernel
theorem dX4_spells_22 : decode cX4_spells 22 = .ok (.invokevirtual 34, 3) := by decide +kernel
theorem dX4_spells_25 : decode cX4_spells 25 = .ok (.if_icmp .ge 28, 3) := by decide +kernel
theorem dX4_spells_28 : decode cX4_spells 28 = .ok (.aload_n 0, 1) := by decide +kernel
theorem dX4_spells_29 : decode cX4_spells 29 = .ok (.iload_n 1, 1) := by decide +kernel
theorem dX4_spells_30 : decode cX4_spells 30 = .ok (.iload 4, 2) := by decide +kernel
theorem dX4_spells_32 : decode cX4_spells 32 = .ok (.iadd, 1) := by decide +kernel
theorem dX4_spells_33 : decode cX4_spells 33 = .ok (.invokevirtual 23, 3) := by decide +kernel
theorem dX4_spells_36 : decode cX4_spells 36 = .ok (.aload_n 3, 1) := by decide +kernel
theorem dX4_spells_37 : decode cX4_spells 37 = .ok (.iload 4, 2) := by decide +kernel
theorem dX4_spells_39 : decode cX4_spells 39 = .ok (.invokevirtual 40, 3) := by decide +kernel
theorem dX4_spells_42 : decode cX4_spells 42 = .ok (.if_icmp .eq 5, 3) := by decide +kernel
theorem dX4_spells_45 : decode cX4_spells 45 = .ok (.iconst 0, 1) := by decide +kernel
theorem dX4_spells_46 : decode cX4_spells 46 = .ok (.ireturn, 1) := by decide +kernel
theorem dX4_spells_47 : decode cX4_spells 47 = .ok (.iinc 4 1, 3) := by decide +kernel
theorem dX4_spells_50 : decode cX4_spells 50 = .ok (.goto (-31), 3) := by decide +kernel
theorem dX4_spells_53 : decode cX4_spells 53 = .ok (.iconst 1, 1) := by decide +kernel
theorem dX4_spells_54 : decode cX4_spells 54 = .ok (.ireturn, 1) := by decide +kernel
theorem dX4_cellSpelled_0 : decode cX4_cellSpelled 0 = .ok (.iload_n 2, 1) := by decide +kernel
theorem dX4_cellSpelled_1 : decode cX4_cellSpelled 1 = .ok (.iload_n 1, 1) := by decide +kernel
theorem dX4_cellSpelled_2 : decode cX4_cellSpelled 2 = .ok (.isub, 1) := by decide +kernel
theorem dX4_cellSpelled_3 : decode cX4_cellSpelled 3 = .ok (.iconst 1, 1) := by decide +kernel
theorem dX4_cellSpelled_4 : decode cX4_cellSpelled 4 = .ok (.isub, 1) := by decide +kernel
theorem dX4_cellSpelled_5 : decode cX4_cellSpelled 5 = .ok (.istore_n 3, 1) := by decide +kernel
theorem dX4_cellSpelled_6 : decode cX4_cellSpelled 6 = .ok (.iload_n 3, 1) := by decide +kernel
theorem dX4_cellSpelled_7 : decode cX4_cellSpelled 7 = .ok (.iconst 1, 1) := by decide +kernel
theorem dX4_cellSpelled_8 : decode cX4_cellSpelled 8 = .ok (.if_icmp .lt 20, 3) := by decide +kernel
theorem dX4_cellSpelled_11 : decode cX4_cellSpelled 11 = .ok (.iload_n 3, 1) := by decide +kernel
theorem dX4_cellSpelled_12 : decode cX4_cellSpelled 12 = .ok (.iconst 2, 1) := by decide +kernel
theorem dX4_cellSpelled_13 : decode cX4_cellSpelled 13 = .ok (.if_icmp .gt 15, 3) := by decide +kernel
theorem dX4_cellSpelled_16 : decode cX4_cellSpelled 16 = .ok (.aload_n 0, 1) := by decide +kernel
theorem dX4_cellSpelled_17 : decode cX4_cellSpelled 17 = .ok (.iload_n 1, 1) := by decide +kernel
theorem dX4_cellSpelled_18 : decode cX4_cellSpelled 18 = .ok (.iconst 1, 1) := by decide +kernel
theorem dX4_cellSpelled_19 : decode cX4_cellSpelled 19 = .ok (.iadd, 1) := by decide +kernel
theorem dX4_cellSpelled_20 : decode cX4_cellSpelled 20 = .ok (.invokevirtual 23, 3) := by decide +kernel
theorem dX4_cellSpelled_23 : decode cX4_cellSpelled 23 = .ok (.bipush 48, 2) := by decide +kernel
theorem dX4_cellSpelled_25 : decode cX4_cellSpelled 25 = .ok (.if_icmp .ne 5, 3) := by decide +kernel
theorem dX4_cellSpelled_28 : decode cX4_cellSpelled 28 = .ok (.iconst (-1), 1) := by decide +kernel
theorem dX4_cellSpelled_29 : decode cX4_cellSpelled 29 = .ok (.ireturn, 1) := by decide +kernel
theorem dX4_cellSpelled_30 : decode cX4_cellSpelled 30 = .ok (.iconst 0, 1) := by decide +kernel
theorem dX4_cellSpelled_31 : decode cX4_cellSpelled 31 = .ok (.istore 4, 2) := by decide +kernel
theorem dX4_cellSpelled_33 : decode cX4_cellSpelled 33 = .ok (.iload_n 1, 1) := by decide +kernel
theorem dX4_cellSpelled_34 : decode cX4_cellSpelled 34 = .ok (.iconst 1, 1) := by decide +kernel
theorem dX4_cellSpelled_35 : decode cX4_cellSpelled 35 = .ok (.iadd, 1) := by decide +kernel
theorem dX4_cellSpelled_36 : decode cX4_cellSpelled 36 = .ok (.istore 5, 2) := by decide +kernel
theorem dX4_cellSpelled_38 : decode cX4_cellSpelled 38 = .ok (.iload 5, 2) := by decide +kernel
theorem dX4_cellSpelled_40 : decode cX4_cellSpelled 40 = .ok (.iload_n 2, 1) := by decide +kernel
theorem dX4_cellSpelled_41 : decode cX4_cellSpelled 41 = .ok (.if_icmp .ge 37, 3) := by decide +kernel
theorem dX4_cellSpelled_44 : decode cX4_cellSpelled 44 = .ok (.aload_n 0, 1) := by decide +kernel
theorem dX4_cellSpelled_45 : decode cX4_cellSpelled 45 = .ok (.iload 5, 2) := by decide +kernel
theorem dX4_cellSpelled_47 : decode cX4_cellSpelled 47 = .ok (.invokevirtual 31, 3) := by decide +kernel
theorem dX4_cellSpelled_50 : decode cX4_cellSpelled 50 = .ok (.ifCond .ne 5, 3) := by decide +kernel
theorem dX4_cellSpelled_53 : decode cX4_cellSpelled 53 = .ok (.iconst (-1), 1) := by decide +kernel
theorem dX4_cellSpelled_54 : decode cX4_cellSpelled 54 = .ok (.ireturn, 1) := by decide +kernel
theorem dX4_cellSpelled_55 : decode cX4_cellSpelled 55 = .ok (.iload 4, 2) := by decide +kernel
theorem dX4_cellSpelled_57 : decode cX4_cellSpelled 57 = .ok (.bipush 10, 2) := by decide +kernel
theorem dX4_cellSpelled_59 : decode cX4_cellSpelled 59 = .ok (.imul, 1) := by decide +kernel
theorem dX4_cellSpelled_60 : decode cX4_cellSpelled 60 = .ok (.aload_n 0, 1) := by decide +kernel
theorem dX4_cellSpelled_61 : decode cX4_cellSpelled 61 = .ok (.iload 5, 2) := by decide +kernel
theorem dX4_cellSpelled_63 : decode cX4_cellSpelled 63 = .ok (.invokevirtual 23, 3) := by decide +kernel
theorem dX4_cellSpelled_66 : decode cX4_cellSpelled 66 = .ok (.iadd, 1) := by decide +kernel
theorem dX4_cellSpelled_67 : decode cX4_cellSpelled 67 = .ok (.bipush 48, 2) := by decide +kernel
theorem dX4_cellSpelled_69 : decode cX4_cellSpelled 69 = .ok (.isub, 1) := by decide +kernel
theorem dX4_cellSpelled_70 : decode cX4_cellSpelled 70 = .ok (.istore 4, 2) := by decide +kernel
theorem dX4_cellSpelled_72 : decode cX4_cellSpelled 72 = .ok (.iinc 5 1, 3) := by decide +kernel
theorem dX4_cellSpelled_75 : decode cX4_cellSpelled 75 = .ok (.goto (-37), 3) := by decide +kernel
theorem dX4_cellSpelled_78 : decode cX4_cellSpelled 78 = .ok (.aload_n 0, 1) := by decide +kernel
theorem dX4_cellSpelled_79 : decode cX4_cellSpelled 79 = .ok (.iload_n 1, 1) := by decide +kernel
theorem dX4_cellSpelled_80 : decode cX4_cellSpelled 80 = .ok (.invokevirtual 23, 3) := by decide +kernel
theorem dX4_cellSpelled_83 : decode cX4_cellSpelled 83 = .ok (.bipush 97, 2) := by decide +kernel
theorem dX4_cellSpelled_85 : decode cX4_cellSpelled 85 = .ok (.isub, 1) := by decide +kernel
theorem dX4_cellSpelled_86 : decode cX4_cellSpelled 86 = .ok (.iload 4, 2) := by decide +kernel
theorem dX4_cellSpelled_88 : decode cX4_cellSpelled 88 = .ok (.invokestatic 44, 3) := by decide +kernel
theorem dX4_cellSpelled_91 : decode cX4_cellSpelled 91 = .ok (.ireturn, 1) := by decide +kernel
theorem dX5_init_0 : decode cX5_init 0 = .ok (.aload_n 0, 1) := by decide +kernel
theorem dX5_init_1 : decode cX5_init 1 = .ok (.invokespecial 3, 3) := by decide +kernel
theorem dX5_init_4 : decode cX5_init 4 = .ok (.aload_n 0, 1) := by decide +kernel
theorem dX5_init_5 : decode cX5_init 5 = .ok (.iconst (-1), 1) := by decide +kernel
theorem dX5_init_6 : decode cX5_init 6 = .ok (.putfield 9, 3) := by decide +kernel
theorem dX5_init_9 : decode cX5_init 9 = .ok (.return_, 1) := by decide +kernel
theorem dX5_carryOut_0 : decode cX5_carryOut 0 = .ok (.aload_n 0, 1) := by decide +kernel
theorem dX5_carryOut_1 : decode cX5_carryOut 1 = .ok (.iconst (-1), 1) := by decide +kernel
theorem dX5_carryOut_2 : decode cX5_carryOut 2 = .ok (.putfield 9, 3) := by decide +kernel
theorem dX5_carryOut_5 : decode cX5_carryOut 5 = .ok (.iconst 0, 1) := by decide +kernel
theorem dX5_carryOut_6 : decode cX5_carryOut 6 = .ok (.istore_n 3, 1) := by decide +kernel
theorem dX5_carryOut_7 : decode cX5_carryOut 7 = .ok (.iconst 0, 1) := by decide +kernel
theorem dX5_carryOut_8 : decode cX5_carryOut 8 = .ok (.istore 4, 2) := by decide +kernel
theorem dX5_carryOut_10 : decode cX5_carryOut 10 = .ok (.iload 4, 2) := by decide +kernel
theorem dX5_carryOut_12 : decode cX5_carryOut 12 = .ok (.aload_n 1, 1) := by decide +kernel
theorem dX5_carryOut_13 : decode cX5_carryOut 13 = .ok (.getfield 15, 3) := by decide +kernel
theorem dX5_carryOut_16 : decode cX5_carryOut 16 = .ok (.if_icmp .ge 99, 3) := by decide +kernel
theorem dX5_carryOut_19 : decode cX5_carryOut 19 = .ok (.iload_n 3, 1) := by decide +kernel
theorem dX5_carryOut_20 : decode cX5_carryOut 20 = .ok (.ifCond .ne 95, 3) := by decide +kernel
theorem dX5_carryOut_23 : decode cX5_carryOut 23 = .ok (.aload_n 1, 1) := by decide +kernel
theorem dX5_carryOut_24 : decode cX5_carryOut 24 = .ok (.iload 4, 2) := by decide +kernel
theorem dX5_carryOut_26 : decode cX5_carryOut 26 = .ok (.invokevirtual 20, 3) := by decide +kernel
theorem dX5_carryOut_29 : decode cX5_carryOut 29 = .ok (.astore 5, 2) := by decide +kernel
theorem dX5_carryOut_31 : decode cX5_carryOut 31 = .ok (.aload 5, 2) := by decide +kernel
theorem dX5_carryOut_33 : decode cX5_carryOut 33 = .ok (.getstatic 24, 3) := by decide +kernel
theorem dX5_carryOut_36 : decode cX5_carryOut 36 = .ok (.if_acmp .ne 10, 3) := by decide +kernel
theorem dX5_carryOut_39 : decode cX5_carryOut 39 = .ok (.aload_n 2, 1) := by decide +kernel
theorem dX5_carryOut_40 : decode cX5_carryOut 40 = .ok (.invokevirtual 30, 3) := by decide +kernel
theorem dX5_carryOut_43 : decode cX5_carryOut 43 = .ok (.goto 66, 3) := by decide +kernel
theorem dX5_carryOut_46 : decode cX5_carryOut 46 = .ok (.aload 5, 2) := by decide +kernel
theorem dX5_carryOut_48 : decode cX5_carryOut 48 = .ok (.getstatic 35, 3) := by decide +kernel
theorem dX5_carryOut_51 : decode cX5_carryOut 51 = .ok (.if_acmp .ne 15, 3) := by decide +kernel
theorem dX5_carryOut_54 : decode cX5_carryOut 54 = .ok (.aload_n 0, 1) := by decide +kernel
theorem dX5_carryOut_55 : decode cX5_carryOut 55 = .ok (.aload_n 1, 1) := by decide +kernel
theorem dX5_carryOut_56 : decode cX5_carryOut 56 = .ok (.aload_n 2, 1) := by decide +kernel
theorem dX5_carryOut_57 : decode cX5_carryOut 57 = .ok (.iload 4, 2) := by decide +kernel
theorem dX5_carryOut_59 : decode cX5_carryOut 59 = .ok (.invokevirtual 38, 3) := by decide +kernel
theorem dX5_carryOut_62 : decode cX5_carryOut 62 = .ok (.istore_n 3, 1) := by decide +kernel
theorem dX5_carryOut_63 : decode cX5_carryOut 63 = .ok (.goto 46, 3) := by decide +kernel
theorem dX5_carryOut_66 : decode cX5_carryOut 66 = .ok (.aload 5, 2) := by decide +kernel
theorem dX5_carryOut_68 : decode cX5_carryOut 68 = .ok (.getstatic 42, 3) := by decide +kernel
theorem dX5_carryOut_71 : decode cX5_carryOut 71 = .ok (.if_acmp .ne 21, 3) := by decide +kernel
theorem dX5_carryOut_74 : decode cX5_carryOut 74 = .ok (.aload_n 2, 1) := by decide +kernel
theorem dX5_carryOut_75 : decode cX5_carryOut 75 = .ok (.aload_n 1, 1) := by decide +kernel
theorem dX5_carryOut_76 : decode cX5_carryOut 76 = .ok (.iload 4, 2) := by decide +kernel
theorem dX5_carryOut_78 : decode cX5_carryOut 78 = .ok (.iconst 1, 1) := by decide +kernel
theorem dX5_carryOut_79 : decode cX5_carryOut 79 = .ok (.iadd, 1) := by decide +kernel
theorem dX5_carryOut_80 : decode cX5_carryOut 80 = .ok (.invokevirtual 20, 3) := by decide +kernel
theorem dX5_carryOut_83 : decode cX5_carryOut 83 = .ok (.getfield 45, 3) := by decide +kernel
theorem dX5_carryOut_86 : decode cX5_carryOut 86 = .ok (.invokevirtual 48, 3) := by decide +kernel
theorem dX5_carryOut_89 : decode cX5_carryOut 89 = .ok (.goto 20, 3) := by decide +kernel
theorem dX5_carryOut_92 : decode cX5_carryOut 92 = .ok (.aload 5, 2) := by decide +kernel
theorem dX5_carryOut_94 : decode cX5_carryOut 94 = .ok (.getstatic 52, 3) := by decide +kernel
theorem dX5_carryOut_97 : decode cX5_carryOut 97 = .ok (.if_acmp .ne 12, 3) := by decide +kernel
theorem dX5_carryOut_100 : decode cX5_carryOut 100 = .ok (.aload_n 0, 1) := by decide +kernel
theorem dX5_carryOut_101 : decode cX5_carryOut 101 = .ok (.aload_n 1, 1) := by decide +kernel
theorem dX5_carryOut_102 : decode cX5_carryOut 102 = .ok (.aload_n 2, 1) := by decide +kernel
theorem dX5_carryOut_103 : decode cX5_carryOut 103 = .ok (.iload 4, 2) := by decide +kernel
theorem dX5_carryOut_105 : decode cX5_carryOut 105 = .ok (.invokevirtual 55, 3) := by decide +kernel
theorem dX5_carryOut_108 : decode cX5_carryOut 108 = .ok (.istore_n 3, 1) := by decide +kernel
theorem dX5_carryOut_109 : decode cX5_carryOut 109 = .ok (.iinc 4 1, 3) := by decide +kernel
theorem dX5_carryOut_112 : decode cX5_carryOut 112 = .ok (.goto (-102), 3) := by decide +kernel
theorem dX5_carryOut_115 : decode cX5_carryOut 115 = .ok (.iload_n 3, 1) := by decide +kernel
theorem dX5_carryOut_116 : decode cX5_carryOut 116 = .ok (.ireturn, 1) := by decide +kernel
theorem dX5_put_0 : decode cX5_put 0 = .ok (.aload_n 1, 1) := by decide +kernel
theorem dX5_put_1 : decode cX5_put 1 = .ok (.iload_n 3, 1) := by decide +kernel
theorem dX5_put_2 : decode cX5_put 2 = .ok (.iconst 1, 1) := by decide +kernel
theorem dX5_put_3 : decode cX5_put 3 = .ok (.iadd, 1) := by decide +kernel
theorem dX5_put_4 : decode cX5_put 4 = .ok (.invokevirtual 20, 3) := by decide +kernel
theorem dX5_put_7 : decode cX5_put 7 = .ok (.getfield 45, 3) := by decide +kernel
theorem dX5_put_10 : decode cX5_put 10 = .ok (.istore 4, 2) := by decide +kernel
theorem dX5_put_12 : decode cX5_put 12 = .ok (.aload_n 1, 1) := by decide +kernel
theorem dX5_put_13 : decode cX5_put 13 = .ok (.iload_n 3, 1) := by decide +kernel
theorem dX5_put_14 : decode cX5_put 14 = .ok (.iconst 2, 1) := by decide +kernel
theorem dX5_put_15 : decode cX5_put 15 = .ok (.iadd, 1) := by decide +kernel
theorem dX5_put_16 : decode cX5_put 16 = .ok (.invokevirtual 20, 3) := by decide +kernel
theorem dX5_put_19 : decode cX5_put 19 = .ok (.getfield 45, 3) := by decide +kernel
theorem dX5_put_22 : decode cX5_put 22 = .ok (.istore 5, 2) := by decide +kernel
theorem dX5_put_24 : decode cX5_put 24 = .ok (.aload_n 1, 1) := by decide +kernel
theorem dX5_put_25 : decode cX5_put 25 = .ok (.iload_n 3, 1) := by decide +kernel
theorem dX5_put_26 : decode cX5_put 26 = .ok (.iconst 3, 1) := by decide +kernel
theorem dX5_put_27 : decode cX5_put 27 = .ok (.iadd, 1) := by decide +kernel
theorem dX5_put_28 : decode cX5_put 28 = .ok (.invokevirtual 58, 3) := by decide +kernel
theorem dX5_put_31 : decode cX5_put 31 = .ok (.istore 6, 2) := by decide +kernel
theorem dX5_put_33 : decode cX5_put 33 = .ok (.aload_n 2, 1) := by decide +kernel
theorem dX5_put_34 : decode cX5_put 34 = .ok (.getfield 62, 3) := by decide +kernel
theorem dX5_put_37 : decode cX5_put 37 = .ok (.iload 4, 2) := by decide +kernel
theorem dX5_put_39 : decode cX5_put 39 = .ok (.invokevirtual 66, 3) := by decide +kernel
theorem dX5_put_42 : decode cX5_put 42 = .ok (.bipush 20, 2) := by decide +kernel
theorem dX5_put_44 : decode cX5_put 44 = .ok (.if_icmp .lt 13, 3) := by decide +kernel
theorem dX5_put_47 : decode cX5_put 47 = .ok (.aload_n 0, 1) := by decide +kernel
theorem dX5_put_48 : decode cX5_put 48 = .ok (.aload_n 1, 1) := by decide +kernel
theorem dX5_put_49 : decode cX5_put 49 = .ok (.iload_n 3, 1) := by decide +kernel
theorem dX5_put_50 : decode cX5_put 50 = .ok (.iconst 1, 1) := by decide +kernel
theorem dX5_put_51 : decode cX5_put 51 = .ok (.iadd, 1) := by decide +kernel
theorem dX5_put_52 : decode cX5_put 52 = .ok (.iconst 4, 1) := by decide +kernel
theorem dX5_put_53 : decode cX5_put 53 = .ok (.invokevirtual 71, 3) := by decide +kernel
theorem dX5_put_56 : decode cX5_put 56 = .ok (.ireturn, 1) := by decide +kernel
theorem dX5_put_57 : decode cX5_put 57 = .ok (.iload 5, 2) := by decide +kernel
theorem dX5_put_59 : decode cX5_put 59 = .ok (.iconst 1, 1) := by decide +kernel
theorem dX5_put_60 : decode cX5_put 60 = .ok (.if_icmp .ne 22, 3) := by decide +kernel
theorem dX5_put_63 : decode cX5_put 63 = .ok (.aload_n 2, 1) := by decide +kernel
theorem dX5_put_64 : decode cX5_put 64 = .ok (.iload 4, 2) := by decide +kernel
theorem dX5_put_66 : decode cX5_put 66 = .ok (.invokevirtual 75, 3) := by decide +kernel
theorem dX5_put_69 : decode cX5_put 69 = .ok (.ifCond .eq 13, 3) := by decide +kernel
theorem dX5_put_72 : decode cX5_put 72 = .ok (.aload_n 0, 1) := by decide +kernel
theorem dX5_put_73 : decode cX5_put 73 = .ok (.aload_n 1, 1) := by decide +kernel
theorem dX5_put_74 : decode cX5_put 74 = .ok (.iload_n 3, 1) := by decide +kernel
theorem dX5_put_75 : decode cX5_put 75 = .ok (.iconst 2, 1) := by decide +kernel
theorem dX5_put_76 : decode cX5_put 76 = .ok (.iadd, 1) := by decide +kernel
theorem dX5_put_77 : decode cX5_put 77 = .ok (.iconst 3, 1) := by decide +kernel
theorem dX5_put_78 : decode cX5_put 78 = .ok (.invokevirtual 71, 3) := by decide +kernel
theorem dX5_put_81 : decode cX5_put 81 = .ok (.ireturn, 1) := by decide +kernel
theorem dX5_put_82 : decode cX5_put 82 = .ok (.iload 6, 2) := by decide +kernel
theorem dX5_put_84 : decode cX5_put 84 = .ok (.iconst (-1), 1) := by decide +kernel
theorem dX5_put_85 : decode cX5_put 85 = .ok (.if_icmp .ne 13, 3) := by decide +kernel
theorem dX5_put_88 : decode cX5_put 88 = .ok (.aload_n 0, 1) := by decide +kernel
theorem dX5_put_89 : decode cX5_put 89 = .ok (.aload_n 1, 1) := by decide +kernel
theorem dX5_put_90 : decode cX5_put 90 = .ok (.iload_n 3, 1) := by decide +kernel
theorem dX5_put_91 : decode cX5_put 91 = .ok (.iconst 3, 1) := by decide +kernel
theorem dX5_put_92 : decode cX5_put 92 = .ok (.iadd, 1) := by decide +kernel
theorem dX5_put_93 : decode cX5_put 93 = .ok (.iconst 2, 1) := by decide +kernel
theorem dX5_put_94 : decode cX5_put 94 = .ok (.invokevirtual 71, 3) := by decide +kernel
theorem dX5_put_97 : decode cX5_put 97 = .ok (.ireturn, 1) := by decide +kernel
theorem dX5_put_98 : decode cX5_put 98 = .ok (.aload_n 2, 1) := by decide +kernel
theorem dX5_put_99 : decode cX5_put 99 = .ok (.iload 6, 2) := by decide +kernel
theorem dX5_put_101 : decode cX5_put 101 = .ok (.invokevirtual 79, 3) := by decide +kernel
theorem dX5_put_104 : decode cX5_put 104 = .ok (.ifCond .eq 13, 3) := by decide +kernel
theorem dX5_put_107 : decode cX5_put 107 = .ok (.aload_n 0, 1) := by decide +kernel
theorem dX5_put_108 : decode cX5_put 108 = .ok (.aload_n 1, 1) := by decide +kernel
theorem dX5_put_109 : decode cX5_put 109 = .ok (.iload_n 3, 1) := by decide +kernel
theorem dX5_put_110 : decode cX5_put 110 = .ok (.iconst 3, 1) := by decide +kernel
theorem dX5_put_111 : decode cX5_put 111 = .ok (.iadd, 1) := by decide +kernel
theorem dX5_put_112 : decode cX5_put 112 = .ok (.iconst 3, 1) := by decide +kernel
theorem dX5_put_113 : decode cX5_put 113 = .ok (.invokevirtual 71, 3) := by decide +kernel
theorem dX5_put_116 : decode cX5_put 116 = .ok (.ireturn, 1) := by decide +kernel
theorem dX5_put_117 : decode cX5_put 117 = .ok (.aload_n 2, 1) := by decide +kernel
theorem dX5_put_118 : decode cX5_put 118 = .ok (.iload 4, 2) := by decide +kernel
theorem dX5_put_120 : decode cX5_put 120 = .ok (.iload 5, 2) := by decide +kernel
theorem dX5_put_122 : decode cX5_put 122 = .ok (.iload 6, 2) := by decide +kernel
theorem dX5_put_124 : decode cX5_put 124 = .ok (.invokevirtual 82, 3) := by decide +kernel
theorem dX5_put_127 : decode cX5_put 127 = .ok (.iconst 0, 1) := by decide +kernel
theorem dX5_put_128 : decode cX5_put 128 = .ok (.ireturn, 1) := by decide +kernel
theorem dX5_go_0 : decode cX5_go 0 = .ok (.aload_n 1, 1) := by decide +kernel
theorem dX5_go_1 : decode cX5_go 1 = .ok (.iload_n 3, 1) := by decide +kernel
theorem dX5_go_2 : decode cX5_go 2 = .ok (.iconst 1, 1) := by decide +kernel
theorem dX5_go_3 : decode cX5_go 3 = .ok (.iadd, 1) := by decide +kernel
theorem dX5_go_4 : decode cX5_go 4 = .ok (.invokevirtual 58, 3) := by decide +kernel
theorem dX5_go_7 : decode cX5_go 7 = .ok (.istore 4, 2) := by decide +kernel
theorem dX5_go_9 : decode cX5_go 9 = .ok (.aload_n 1, 1) := by decide +kernel
theorem dX5_go_10 : decode cX5_go 10 = .ok (.iload_n 3, 1) := by decide +kernel
theorem dX5_go_11 : decode cX5_go 11 = .ok (.iconst 2, 1) := by decide +kernel
theorem dX5_go_12 : decode cX5_go 12 = .ok (.iadd, 1) := by decide +kernel
theorem dX5_go_13 : decode cX5_go 13 = .ok (.invokevirtual 58, 3) := by decide +kernel
theorem dX5_go_16 : decode cX5_go 16 = .ok (.istore 5, 2) := by decide +kernel
theorem dX5_go_18 : decode cX5_go 18 = .ok (.aload_n 1, 1) := by decide +kernel
theorem dX5_go_19 : decode cX5_go 19 = .ok (.iload_n 3, 1) := by decide +kernel
theorem dX5_go_20 : decode cX5_go 20 = .ok (.iconst 3, 1) := by decide +kernel
theorem dX5_go_21 : decode cX5_go 21 = .ok (.iadd, 1) := by decide +kernel
theorem dX5_go_22 : decode cX5_go 22 = .ok (.invokevirtual 20, 3) := by decide +kernel
theorem dX5_go_25 : decode cX5_go 25 = .ok (.getstatic 85, 3) := by decide +kernel
theorem dX5_go_28 : decode cX5_go 28 = .ok (.if_acmp .ne 7, 3) := by decide +kernel
theorem dX5_go_31 : decode cX5_go 31 = .ok (.iconst 1, 1) := by decide +kernel
theorem dX5_go_32 : decode cX5_go 32 = .ok (.goto 4, 3) := by decide +kernel
theorem dX5_go_35 : decode cX5_go 35 = .ok (.iconst 0, 1) := by decide +kernel
theorem dX5_go_36 : decode cX5_go 36 = .ok (.istore 6, 2) := by decide +kernel
theorem dX5_go_38 : decode cX5_go 38 = .ok (.iload 6, 2) := by decide +kernel
theorem dX5_go_40 : decode cX5_go 40 = .ok (.ifCond .eq 16, 3) := by decide +kernel
theorem dX5_go_43 : decode cX5_go 43 = .ok (.aload_n 1, 1) := by decide +kernel
theorem dX5_go_44 : decode cX5_go 44 = .ok (.iload_n 3, 1) := by decide +kernel
theorem dX5_go_45 : decode cX5_go 45 = .ok (.iconst 4, 1) := by decide +kernel
theorem dX5_go_46 : decode cX5_go 46 = .ok (.iadd, 1) := by decide +kernel
theorem dX5_go_47 : decode cX5_go 47 = .ok (.invokevirtual 20, 3) := by decide +kernel
theorem dX5_go_50 : decode cX5_go 50 = .ok (.getfield 45, 3) := by decide +kernel
theorem dX5_go_53 : decode cX5_go 53 = .ok (.goto 4, 3) := by decide +kernel
theorem dX5_go_56 : decode cX5_go 56 = .ok (.iconst 2, 1) := by decide +kernel
theorem dX5_go_57 : decode cX5_go 57 = .ok (.istore 7, 2) := by decide +kernel
theorem dX5_go_59 : decode cX5_go 59 = .ok (.aload_n 2, 1) := by decide +kernel
theorem dX5_go_60 : decode cX5_go 60 = .ok (.invokevirtual 88, 3) := by decide +kernel
theorem dX5_go_63 : decode cX5_go 63 = .ok (.ifCond .ne 11, 3) := by decide +kernel
theorem dX5_go_66 : decode cX5_go 66 = .ok (.aload_n 0, 1) := by decide +kernel
theorem dX5_go_67 : decode cX5_go 67 = .ok (.aload_n 1, 1) := by decide +kernel
theorem dX5_go_68 : decode cX5_go 68 = .ok (.iload_n 3, 1) := by decide +kernel
theorem dX5_go_69 : decode cX5_go 69 = .ok (.iconst 4, 1) := by decide +kernel
theorem dX5_go_70 : decode cX5_go 70 = .ok (.invokevirtual 71, 3) := by decide +kernel
theorem dX5_go_73 : decode cX5_go 73 = .ok (.ireturn, 1) := by decide +kernel
theorem dX5_go_74 : decode cX5_go 74 = .ok (.iload 4, 2) := by decide +kernel
theorem dX5_go_76 : decode cX5_go 76 = .ok (.iconst (-1), 1) := by decide +kernel
theorem dX5_go_77 : decode cX5_go 77 = .ok (.if_icmp .ne 13, 3) := by decide +kernel
theorem dX5_go_80 : decode cX5_go 80 = .ok (.aload_n 0, 1) := by decide +kernel
theorem dX5_go_81 : decode cX5_go 81 = .ok (.aload_n 1, 1) := by decide +kernel
theorem dX5_go_82 : decode cX5_go 82 = .ok (.iload_n 3, 1) := by decide +kernel
theorem dX5_go_83 : decode cX5_go 83 = .ok (.iconst 1, 1) := by decide +kernel
theorem dX5_go_84 : decode cX5_go 84 = .ok (.iadd, 1) := by decide +kernel
theorem dX5_go_85 : decode cX5_go 85 = .ok (.iconst 2, 1) := by decide +kernel
theorem dX5_go_86 : decode cX5_go 86 = .ok (.invokevirtual 71, 3) := by decide +kernel
theorem dX5_go_89 : decode cX5_go 89 = .ok (.ireturn, 1) := by decide +kernel
theorem dX5_go_90 : decode cX5_go 90 = .ok (.aload_n 2, 1) := by decide +kernel
theorem dX5_go_91 : decode cX5_go 91 = .ok (.iload 4, 2) := by decide +kernel
theorem dX5_go_93 : decode cX5_go 93 = .ok (.invokevirtual 92, 3) := by decide +kernel
theorem dX5_go_96 : decode cX5_go 96 = .ok (.ifCond .ne 13, 3) := by decide +kernel
theorem dX5_go_99 : decode cX5_go 99 = .ok (.aload_n 0, 1) := by decide +kernel
theorem dX5_go_100 : decode cX5_go 100 = .ok (.aload_n 1, 1) := by decide +kernel
theorem dX5_go_101 : decode cX5_go 101 = .ok (.iload_n 3, 1) := by decide +kernel
theorem dX5_go_102 : decode cX5_go 102 = .ok (.iconst 1, 1) := by decide +kernel
theorem dX5_go_103 : decode cX5_go 103 = .ok (.iadd, 1) := by decide +kernel
theorem dX5_go_104 : decode cX5_go 104 = .ok (.iconst 4, 1) := by decide +kernel
theorem dX5_go_105 : decode cX5_go 105 = .ok (.invokevirtual 71, 3) := by decide +kernel
theorem dX5_go_108 : decode cX5_go 108 = .ok (.ireturn, 1) := by decide +kernel
theorem dX5_go_109 : decode cX5_go 109 = .ok (.iload 5, 2) := by decide +kernel
theorem dX5_go_111 : decode cX5_go 111 = .ok (.iconst (-1), 1) := by decide +kernel
theorem dX5_go_112 : decode cX5_go 112 = .ok (.if_icmp .ne 13, 3) := by decide +kernel
theorem dX5_go_115 : decode cX5_go 115 = .ok (.aload_n 0, 1) := by decide +kernel
theorem dX5_go_116 : decode cX5_go 116 = .ok (.aload_n 1, 1) := by decide +kernel
theorem dX5_go_117 : decode cX5_go 117 = .ok (.iload_n 3, 1) := by decide +kernel
theorem dX5_go_118 : decode cX5_go 118 = .ok (.iconst 2, 1) := by decide +kernel
theorem dX5_go_119 : decode cX5_go 119 = .ok (.iadd, 1) := by decide +kernel
theorem dX5_go_120 : decode cX5_go 120 = .ok (.iconst 2, 1) := by decide +kernel
theorem dX5_go_121 : decode cX5_go 121 = .ok (.invokevirtual 71, 3) := by decide +kernel
theorem dX5_go_124 : decode cX5_go 124 = .ok (.ireturn, 1) := by decide +kernel
theorem dX5_go_125 : decode cX5_go 125 = .ok (.aload_n 2, 1) := by decide +kernel
theorem dX5_go_126 : decode cX5_go 126 = .ok (.iload 4, 2) := by decide +kernel
theorem dX5_go_128 : decode cX5_go 128 = .ok (.iload 5, 2) := by decide +kernel
theorem dX5_go_130 : decode cX5_go 130 = .ok (.invokevirtual 95, 3) := by decide +kernel
theorem dX5_go_133 : decode cX5_go 133 = .ok (.ifCond .ne 13, 3) := by decide +kernel
theorem dX5_go_136 : decode cX5_go 136 = .ok (.aload_n 0, 1) := by decide +kernel
theorem dX5_go_137 : decode cX5_go 137 = .ok (.aload_n 1, 1) := by decide +kernel
theorem dX5_go_138 : decode cX5_go 138 = .ok (.iload_n 3, 1) := by decide +kernel
theorem dX5_go_139 : decode cX5_go 139 = .ok (.iconst 2, 1) := by decide +kernel
theorem dX5_go_140 : decode cX5_go 140 = .ok (.iadd, 1) := by decide +kernel
theorem dX5_go_141 : decode cX5_go 141 = .ok (.iconst 4, 1) := by decide +kernel
theorem dX5_go_142 : decode cX5_go 142 = .ok (.invokevirtual 71, 3) := by decide +kernel
theorem dX5_go_145 : decode cX5_go 145 = .ok (.ireturn, 1) := by decide +kernel
theorem dX5_go_146 : decode cX5_go 146 = .ok (.iload 6, 2) := by decide +kernel
theorem dX5_go_148 : decode cX5_go 148 = .ok (.ifCond .eq 37, 3) := by decide +kernel
theorem dX5_go_151 : decode cX5_go 151 = .ok (.iload 7, 2) := by decide +kernel
theorem dX5_go_153 : decode cX5_go 153 = .ok (.iconst 1, 1) := by decide +kernel
theorem dX5_go_154 : decode cX5_go 154 = .ok (.if_icmp .eq 21, 3) := by decide +kernel
theorem dX5_go_157 : decode cX5_go 157 = .ok (.iload 7, 2) := by decide +kernel
theorem dX5_go_159 : decode cX5_go 159 = .ok (.bipush 6, 2) := by decide +kernel
theorem dX5_go_161 : decode cX5_go 161 = .ok (.if_icmp .eq 14, 3) := by decide +kernel
theorem dX5_go_164 : decode cX5_go 164 = .ok (.aload_n 2, 1) := by decide +kernel
theorem dX5_go_165 : decode cX5_go 165 = .ok (.iload 4, 2) := by decide +kernel
theorem dX5_go_167 : decode cX5_go 167 = .ok (.iload 5, 2) := by decide +kernel
theorem dX5_go_169 : decode cX5_go 169 = .ok (.invokevirtual 99, 3) := by decide +kernel
theorem dX5_go_172 : decode cX5_go 172 = .ok (.ifCond .ne 13, 3) := by decide +kernel
theorem dX5_go_175 : decode cX5_go 175 = .ok (.aload_n 0, 1) := by decide +kernel
theorem dX5_go_176 : decode cX5_go 176 = .ok (.aload_n 1, 1) := by decide +kernel
theorem dX5_go_177 : decode cX5_go 177 = .ok (.iload_n 3, 1) := by decide +kernel
theorem dX5_go_178 : decode cX5_go 178 = .ok (.iconst 4, 1) := by decide +kernel
theorem dX5_go_179 : decode cX5_go 179 = .ok (.iadd, 1) := by decide +kernel
theorem dX5_go_180 : decode cX5_go 180 = .ok (.iconst 5, 1) := by decide +kernel
theorem dX5_go_181 : decode cX5_go 181 = .ok (.invokevirtual 71, 3) := by decide +kernel
theorem dX5_go_184 : decode cX5_go 184 = .ok (.ireturn, 1) := by decide +kernel
theorem dX5_go_185 : decode cX5_go 185 = .ok (.aload_n 2, 1) := by decide +kernel
theorem dX5_go_186 : decode cX5_go 186 = .ok (.iload 4, 2) := by decide +kernel
theorem dX5_go_188 : decode cX5_go 188 = .ok (.iload 5, 2) := by decide +kernel
theorem dX5_go_190 : decode cX5_go 190 = .ok (.iload 7, 2) := by decide +kernel
theorem dX5_go_192 : decode cX5_go 192 = .ok (.invokevirtual 102, 3) := by decide +kernel
theorem dX5_go_195 : decode cX5_go 195 = .ok (.pop, 1) := by decide +kernel
theorem dX5_go_196 : decode cX5_go 196 = .ok (.iconst 0, 1) := by decide +kernel
theorem dX5_go_197 : decode cX5_go 197 = .ok (.ireturn, 1) := by decide +kernel
theorem dX5_fail_0 : decode cX5_fail 0 = .ok (.aload_n 0, 1) := by decide +kernel
theorem dX5_fail_1 : decode cX5_fail 1 = .ok (.aload_n 1, 1) := by decide +kernel
theorem dX5_fail_2 : decode cX5_fail 2 = .ok (.iload_n 2, 1) := by decide +kernel
theorem dX5_fail_3 : decode cX5_fail 3 = .ok (.invokevirtual 106, 3) := by decide +kernel
theorem dX5_fail_6 : decode cX5_fail 6 = .ok (.putfield 9, 3) := by decide +kernel
theorem dX5_fail_9 : decode cX5_fail 9 = .ok (.iload_n 3, 1) := by decide +kernel
theorem dX5_fail_10 : decode cX5_fail 10 = .ok (.ireturn, 1) := by decide +kernel
theorem dX6_init_0 : decode cX6_init 0 = .ok (.aload_n 0, 1) := by decide +kernel
theorem dX6_init_1 : decode cX6_init 1 = .ok (.invokespecial 3, 3) := by decide +kernel
theorem dX6_init_4 : decode cX6_init 4 = .ok (.aload_n 0, 1) := by decide +kernel
theorem dX6_init_5 : decode cX6_init 5 = .ok (.new 9, 3) := by decide +kernel
theorem dX6_init_8 : decode cX6_init 8 = .ok (.dup, 1) := by decide +kernel
theorem dX6_init_9 : decode cX6_init 9 = .ok (.invokespecial 11, 3) := by decide +kernel
theorem dX6_init_12 : decode cX6_init 12 = .ok (.putfield 12, 3) := by decide +kernel
theorem dX6_init_15 : decode cX6_init 15 = .ok (.aload_n 0, 1) := by decide +kernel
theorem dX6_init_16 : decode cX6_init 16 = .ok (.sipush 289, 3) := by decide +kernel
theorem dX6_init_19 : decode cX6_init 19 = .ok (.newarray .int, 2) := by decide +kernel
theorem dX6_init_21 : decode cX6_init 21 = .ok (.putfield 18, 3) := by decide +kernel
theorem dX6_init_24 : decode cX6_init 24 = .ok (.aload_n 0, 1) := by decide +kernel
theorem dX6_init_25 : decode cX6_init 25 = .ok (.bipush 91, 2) := by decide +kernel
theorem dX6_init_27 : decode cX6_init 27 = .ok (.newarray .int, 2) := by decide +kernel
theorem dX6_init_29 : decode cX6_init 29 = .ok (.putfield 22, 3) := by decide +kernel
theorem dX6_init_32 : decode cX6_init 32 = .ok (.aload_n 0, 1) := by decide +kernel
theorem dX6_init_33 : decode cX6_init 33 = .ok (.iconst 0, 1) := by decide +kernel
theorem dX6_init_34 : decode cX6_init 34 = .ok (.putfield 25, 3) := by decide +kernel
theorem dX6_init_37 : decode cX6_init 37 = .ok (.return_, 1) := by decide +kernel
theorem dX6_fewestMoves_0 : decode cX6_fewestMoves 0 = .ok (.aload_n 0, 1) := by decide +kernel
theorem dX6_fewestMoves_1 : decode cX6_fewestMoves 1 = .ok (.getfield 18, 3) := by decide +kernel
theorem dX6_fewestMoves_4 : decode cX6_fewestMoves 4 = .ok (.iconst (-1), 1) := by decide +kernel
theorem dX6_fewestMoves_5 : decode cX6_fewestMoves 5 = .ok (.invokestatic 29, 3) := by decide +kernel
theorem dX6_fewestMoves_8 : decode cX6_fewestMoves 8 = .ok (.aload_n 0, 1) := by decide +kernel
theorem dX6_fewestMoves_9 : decode cX6_fewestMoves 9 = .ok (.iconst 0, 1) := by decide +kernel
theorem dX6_fewestMoves_10 : decode cX6_fewestMoves 10 = .ok (.putfield 25, 3) := by decide +kernel
theorem dX6_fewestMoves_13 : decode cX6_fewestMoves 13 = .ok (.aload_n 0, 1) := by decide +kernel
theorem dX6_fewestMoves_14 : decode cX6_fewestMoves 14 = .ok (.iload_n 2, 1) := by decide +kernel
theorem dX6_fewestMoves_15 : decode cX6_fewestMoves 15 = .ok (.iconst 0, 1) := by decide +kernel
theorem dX6_fewestMoves_16 : decode cX6_fewestMoves 16 = .ok (.invokevirtual 35, 3) := by decide +kernel
theorem dX6_fewestMoves_19 : decode cX6_fewestMoves 19 = .ok (.iconst 0, 1) := by decide +kernel
theorem dX6_fewestMoves_20 : decode cX6_fewestMoves 20 = .ok (.istore 4, 2) := by decide +kernel
theorem dX6_fewestMoves_22 : decode cX6_fewestMoves 22 = .ok (.iload 4, 2) := by decide +kernel
theorem dX6_fewestMoves_24 : decode cX6_fewestMoves 24 = .ok (.aload_n 0, 1) := by decide +kernel
theorem dX6_fewestMoves_25 : decode cX6_fewestMoves 25 = .ok (.getfield 25, 3) := by decide +kernel
theorem dX6_fewestMoves_28 : decode cX6_fewestMoves 28 = .ok (.if_icmp .ge 31, 3) := by decide +kernel
theorem dX6_fewestMoves_31 : decode cX6_fewestMoves 31 = .ok (.iload 4, 2) := by decide +kernel
theorem dX6_fewestMoves_33 : decode cX6_fewestMoves 33 = .ok (.aload_n 0, 1) := by decide +kernel
theorem dX6_fewestMoves_34 : decode cX6_fewestMoves 34 = .ok (.getfield 22, 3) := by decide +kernel
theorem dX6_fewestMoves_37 : decode cX6_fewestMoves 37 = .ok (.arraylength, 1) := by decide +kernel
theorem dX6_fewestMoves_38 : decode cX6_fewestMoves 38 = .ok (.if_icmp .ge 21, 3) := by decide +kernel
theorem dX6_fewestMoves_41 : decode cX6_fewestMoves 41 = .ok (.aload_n 0, 1) := by decide +kernel
theorem dX6_fewestMoves_42 : decode cX6_fewestMoves 42 = .ok (.iload_n 1, 1) := by decide +kernel
theorem dX6_fewestMoves_43 : decode cX6_fewestMoves 43 = .ok (.aload_n 0, 1) := by decide +kernel
theorem dX6_fewestMoves_44 : decode cX6_fewestMoves 44 = .ok (.getfield 22, 3) := by decide +kernel
theorem dX6_fewestMoves_47 : decode cX6_fewestMoves 47 = .ok (.iload 4, 2) := by decide +kernel
theorem dX6_fewestMoves_49 : decode cX6_fewestMoves 49 = .ok (.iaload, 1) := by decide +kernel
theorem dX6_fewestMoves_50 : decode cX6_fewestMoves 50 = .ok (.invokevirtual 39, 3) := by decide +kernel
theorem dX6_fewestMoves_53 : decode cX6_fewestMoves 53 = .ok (.iinc 4 1, 3) := by decide +kernel
theorem dX6_fewestMoves_56 : decode cX6_fewestMoves 56 = .ok (.goto (-34), 3) := by decide +kernel
theorem dX6_fewestMoves_59 : decode cX6_fewestMoves 59 = .ok (.aload_n 0, 1) := by decide +kernel
theorem dX6_fewestMoves_60 : decode cX6_fewestMoves 60 = .ok (.iload_n 3, 1) := by decide +kernel
theorem dX6_fewestMoves_61 : decode cX6_fewestMoves 61 = .ok (.invokevirtual 42, 3) := by decide +kernel
theorem dX6_fewestMoves_64 : decode cX6_fewestMoves 64 = .ok (.ireturn, 1) := by decide +kernel
theorem dX6_distanceOf_0 : decode cX6_distanceOf 0 = .ok (.iload_n 1, 1) := by decide +kernel
theorem dX6_distanceOf_1 : decode cX6_distanceOf 1 = .ok (.ifCond .lt 21, 3) := by decide +kernel
theorem dX6_distanceOf_4 : decode cX6_distanceOf 4 = .ok (.iload_n 1, 1) := by decide +kernel
theorem dX6_distanceOf_5 : decode cX6_distanceOf 5 = .ok (.aload_n 0, 1) := by decide +kernel
theorem dX6_distanceOf_6 : decode cX6_distanceOf 6 = .ok (.getfield 18, 3) := by decide +kernel
theorem dX6_distanceOf_9 : decode cX6_distanceOf 9 = .ok (.arraylength, 1) := by decide +kernel
theorem dX6_distanceOf_10 : decode cX6_distanceOf 10 = .ok (.if_icmp .ge 12, 3) := by decide +kernel
theorem dX6_distanceOf_13 : decode cX6_distanceOf 13 = .ok (.aload_n 0, 1) := by decide +kernel
theorem dX6_distanceOf_14 : decode cX6_distanceOf 14 = .ok (.getfield 18, 3) := by decide +kernel
theorem dX6_distanceOf_17 : decode cX6_distanceOf 17 = .ok (.iload_n 1, 1) := by decide +kernel
theorem dX6_distanceOf_18 : decode cX6_distanceOf 18 = .ok (.iaload, 1) := by decide +kernel
theorem dX6_distanceOf_19 : decode cX6_distanceOf 19 = .ok (.goto 4, 3) := by decide +kernel
theorem dX6_distanceOf_22 : decode cX6_distanceOf 22 = .ok (.iconst (-1), 1) := by decide +kernel
theorem dX6_distanceOf_23 : decode cX6_distanceOf 23 = .ok (.ireturn, 1) := by decide +kernel
theorem dX6_reach_0 : decode cX6_reach 0 = .ok (.iload_n 1, 1) := by decide +kernel
theorem dX6_reach_1 : decode cX6_reach 1 = .ok (.ifCond .lt 68, 3) := by decide +kernel
theorem dX6_reach_4 : decode cX6_reach 4 = .ok (.iload_n 1, 1) := by decide +kernel
theorem dX6_reach_5 : decode cX6_reach 5 = .ok (.aload_n 0, 1) := by decide +kernel
theorem dX6_reach_6 : decode cX6_reach 6 = .ok (.getfield 18, 3) := by decide +kernel
theorem dX6_reach_9 : decode cX6_reach 9 = .ok (.arraylength, 1) := by decide +kernel
theorem dX6_reach_10 : decode cX6_reach 10 = .ok (.if_icmp .ge 59, 3) := by decide +kernel
theorem dX6_reach_13 : decode cX6_reach 13 = .ok (.aload_n 0, 1) := by decide +kernel
theorem dX6_reach_14 : decode cX6_reach 14 = .ok (.getfield 18, 3) := by decide +kernel
theorem dX6_reach_17 : decode cX6_reach 17 = .ok (.iload_n 1, 1) := by decide +kernel
theorem dX6_reach_18 : decode cX6_reach 18 = .ok (.iaload, 1) := by decide +kernel
theorem dX6_reach_19 : decode cX6_reach 19 = .ok (.iconst (-1), 1) := by decide +kernel
theorem dX6_reach_20 : decode cX6_reach 20 = .ok (.if_icmp .ne 49, 3) := by decide +kernel
theorem dX6_reach_23 : decode cX6_reach 23 = .ok (.aload_n 0, 1) := by decide +kernel
theorem dX6_reach_24 : decode cX6_reach 24 = .ok (.getfield 25, 3) := by decide +kernel
theorem dX6_reach_27 : decode cX6_reach 27 = .ok (.ifCond .lt 42, 3) := by decide +kernel
theorem dX6_reach_30 : decode cX6_reach 30 = .ok (.aload_n 0, 1) := by decide +kernel
theorem dX6_reach_31 : decode cX6_reach 31 = .ok (.getfield 25, 3) := by decide +kernel
theorem dX6_reach_34 : decode cX6_reach 34 = .ok (.aload_n 0, 1) := by decide +kernel
theorem dX6_reach_35 : decode cX6_reach 35 = .ok (.getfield 22, 3) := by decide +kernel
theorem dX6_reach_38 : decode cX6_reach 38 = .ok (.arraylength, 1) := by decide +kernel
theorem dX6_reach_39 : decode cX6_reach 39 = .ok (.if_icmp .ge 30, 3) := by decide +kernel
theorem dX6_reach_42 : decode cX6_reach 42 = .ok (.aload_n 0, 1) := by decide +kernel
theorem dX6_reach_43 : decode cX6_reach 43 = .ok (.getfield 18, 3) := by decide +kernel
theorem dX6_reach_46 : decode cX6_reach 46 = .ok (.iload_n 1, 1) := by decide +kernel
theorem dX6_reach_47 : decode cX6_reach 47 = .ok (.iload_n 2, 1) := by decide +kernel
theorem dX6_reach_48 : decode cX6_reach 48 = .ok (.iastore, 1) := by decide +kernel
theorem dX6_reach_49 : decode cX6_reach 49 = .ok (.aload_n 0, 1) := by decide +kernel
theorem dX6_reach_50 : decode cX6_reach 50 = .ok (.getfield 22, 3) := by decide +kernel
theorem dX6_reach_53 : decode cX6_reach 53 = .ok (.aload_n 0, 1) := by decide +kernel
theorem dX6_reach_54 : decode cX6_reach 54 = .ok (.getfield 25, 3) := by decide +kernel
theorem dX6_reach_57 : decode cX6_reach 57 = .ok (.iload_n 1, 1) := by decide +kernel
theorem dX6_reach_58 : decode cX6_reach 58 = .ok (.iastore, 1) := by decide +kernel
theorem dX6_reach_59 : decode cX6_reach 59 = .ok (.aload_n 0, 1) := by decide +kernel
theorem dX6_reach_60 : decode cX6_reach 60 = .ok (.dup, 1) := by decide +kernel
theorem dX6_reach_61 : decode cX6_reach 61 = .ok (.getfield 25, 3) := by decide +kernel
theorem dX6_reach_64 : decode cX6_reach 64 = .ok (.iconst 1, 1) := by decide +kernel
theorem dX6_reach_65 : decode cX6_reach 65 = .ok (.iadd, 1) := by decide +kernel
theorem dX6_reach_66 : decode cX6_reach 66 = .ok (.putfield 25, 3) := by decide +kernel
theorem dX6_reach_69 : decode cX6_reach 69 = .ok (.return_, 1) := by decide +kernel
theorem dX6_goOn_0 : decode cX6_goOn 0 = .ok (.aload_n 0, 1) := by decide +kernel
theorem dX6_goOn_1 : decode cX6_goOn 1 = .ok (.iload_n 2, 1) := by decide +kernel
theorem dX6_goOn_2 : decode cX6_goOn 2 = .ok (.invokevirtual 42, 3) := by decide +kernel
theorem dX6_goOn_5 : decode cX6_goOn 5 = .ok (.iconst 1, 1) := by decide +kernel
theorem dX6_goOn_6 : decode cX6_goOn 6 = .ok (.iadd, 1) := by decide +kernel
theorem dX6_goOn_7 : decode cX6_goOn 7 = .ok (.istore_n 3, 1) := by decide +kernel
theorem dX6_goOn_8 : decode cX6_goOn 8 = .ok (.iload_n 1, 1) := by decide +kernel
theorem dX6_goOn_9 : decode cX6_goOn 9 = .ok (.invokestatic 46, 3) := by decide +kernel
theorem dX6_goOn_12 : decode cX6_goOn 12 = .ok (.astore 4, 2) := by decide +kernel
theorem dX6_goOn_14 : decode cX6_goOn 14 = .ok (.iload_n 1, 1) := by decide +kernel
theorem dX6_goOn_15 : decode cX6_goOn 15 = .ok (.invokestatic 50, 3) := by decide +kernel
theorem dX6_goOn_18 : decode cX6_goOn 18 = .ok (.aload 4, 2) := by decide +kernel
theorem dX6_goOn_20 : decode cX6_goOn 20 = .ok (.arraylength, 1) := by decide +kernel
theorem dX6_goOn_21 : decode cX6_goOn 21 = .ok (.invokestatic 53, 3) := by decide +kernel
theorem dX6_goOn_24 : decode cX6_goOn 24 = .ok (.istore 5, 2) := by decide +kernel
theorem dX6_goOn_26 : decode cX6_goOn 26 = .ok (.iload_n 1, 1) := by decide +kernel
theorem dX6_goOn_27 : decode cX6_goOn 27 = .ok (.invokestatic 59, 3) := by decide +kernel
theorem dX6_goOn_30 : decode cX6_goOn 30 = .ok (.istore 6, 2) := by decide +kernel
theorem dX6_goOn_32 : decode cX6_goOn 32 = .ok (.iload_n 1, 1) := by decide +kernel
theorem dX6_goOn_33 : decode cX6_goOn 33 = .ok (.invokestatic 62, 3) := by decide +kernel
theorem dX6_goOn_36 : decode cX6_goOn 36 = .ok (.istore 7, 2) := by decide +kernel
theorem dX6_goOn_38 : decode cX6_goOn 38 = .ok (.iload 7, 2) := by decide +kernel
theorem dX6_goOn_40 : decode cX6_goOn 40 = .ok (.iload 5, 2) := by decide +kernel
theorem dX6_goOn_42 : decode cX6_goOn 42 = .ok (.if_icmp .ge 63, 3) := by decide +kernel
theorem dX6_goOn_45 : decode cX6_goOn 45 = .ok (.iload_n 2, 1) := by decide +kernel
theorem dX6_goOn_46 : decode cX6_goOn 46 = .ok (.aload 4, 2) := by decide +kernel
theorem dX6_goOn_48 : decode cX6_goOn 48 = .ok (.iload 7, 2) := by decide +kernel
theorem dX6_goOn_50 : decode cX6_goOn 50 = .ok (.iaload, 1) := by decide +kernel
theorem dX6_goOn_51 : decode cX6_goOn 51 = .ok (.iadd, 1) := by decide +kernel
theorem dX6_goOn_52 : decode cX6_goOn 52 = .ok (.istore 8, 2) := by decide +kernel
theorem dX6_goOn_54 : decode cX6_goOn 54 = .ok (.iconst 0, 1) := by decide +kernel
theorem dX6_goOn_55 : decode cX6_goOn 55 = .ok (.istore 9, 2) := by decide +kernel
theorem dX6_goOn_57 : decode cX6_goOn 57 = .ok (.iload 9, 2) := by decide +kernel
theorem dX6_goOn_59 : decode cX6_goOn 59 = .ok (.iload 6, 2) := by decide +kernel
theorem dX6_goOn_61 : decode cX6_goOn 61 = .ok (.if_icmp .ge 38, 3) := by decide +kernel
theorem dX6_goOn_64 : decode cX6_goOn 64 = .ok (.aload_n 0, 1) := by decide +kernel
theorem dX6_goOn_65 : decode cX6_goOn 65 = .ok (.getfield 12, 3) := by decide +kernel
theorem dX6_goOn_68 : decode cX6_goOn 68 = .ok (.iload 8, 2) := by decide +kernel
theorem dX6_goOn_70 : decode cX6_goOn 70 = .ok (.invokevirtual 65, 3) := by decide +kernel
theorem dX6_goOn_73 : decode cX6_goOn 73 = .ok (.ifCond .ne 26, 3) := by decide +kernel
theorem dX6_goOn_76 : decode cX6_goOn 76 = .ok (.aload_n 0, 1) := by decide +kernel
theorem dX6_goOn_77 : decode cX6_goOn 77 = .ok (.iload 8, 2) := by decide +kernel
theorem dX6_goOn_79 : decode cX6_goOn 79 = .ok (.iload_n 3, 1) := by decide +kernel
theorem dX6_goOn_80 : decode cX6_goOn 80 = .ok (.invokevirtual 35, 3) := by decide +kernel
theorem dX6_goOn_83 : decode cX6_goOn 83 = .ok (.iload 8, 2) := by decide +kernel
theorem dX6_goOn_85 : decode cX6_goOn 85 = .ok (.aload 4, 2) := by decide +kernel
theorem dX6_goOn_87 : decode cX6_goOn 87 = .ok (.iload 7, 2) := by decide +kernel
theorem dX6_goOn_89 : decode cX6_goOn 89 = .ok (.iaload, 1) := by decide +kernel
theorem dX6_goOn_90 : decode cX6_goOn 90 = .ok (.iadd, 1) := by decide +kernel
theorem dX6_goOn_91 : decode cX6_goOn 91 = .ok (.istore 8, 2) := by decide +kernel
theorem dX6_goOn_93 : decode cX6_goOn 93 = .ok (.iinc 9 1, 3) := by decide +kernel
theorem dX6_goOn_96 : decode cX6_goOn 96 = .ok (.goto (-39), 3) := by decide +kernel
theorem dX6_goOn_99 : decode cX6_goOn 99 = .ok (.iinc 7 1, 3) := by decide +kernel
theorem dX6_goOn_102 : decode cX6_goOn 102 = .ok (.goto (-64), 3) := by decide +kernel
theorem dX6_goOn_105 : decode cX6_goOn 105 = .ok (.return_, 1) := by decide +kernel
theorem dX7_init_0 : decode cX7_init 0 = .ok (.aload_n 0, 1) := by decide +kernel
theorem dX7_init_1 : decode cX7_init 1 = .ok (.invokespecial 1, 3) := by decide +kernel
theorem dX7_init_4 : decode cX7_init 4 = .ok (.aload_n 0, 1) := by decide +kernel
theorem dX7_init_5 : decode cX7_init 5 = .ok (.new 7, 3) := by decide +kernel
theorem dX7_init_8 : decode cX7_init 8 = .ok (.dup, 1) := by decide +kernel
theorem dX7_init_9 : decode cX7_init 9 = .ok (.invokespecial 9, 3) := by decide +kernel
theorem dX7_init_12 : decode cX7_init 12 = .ok (.putfield 10, 3) := by decide +kernel
theorem dX7_init_15 : decode cX7_init 15 = .ok (.aload_n 0, 1) := by decide +kernel
theorem dX7_init_16 : decode cX7_init 16 = .ok (.new 16, 3) := by decide +kernel
theorem dX7_init_19 : decode cX7_init 19 = .ok (.dup, 1) := by decide +kernel
theorem dX7_init_20 : decode cX7_init 20 = .ok (.invokespecial 18, 3) := by decide +kernel
theorem dX7_init_23 : decode cX7_init 23 = .ok (.putfield 19, 3) := by decide +kernel
theorem dX7_init_26 : decode cX7_init 26 = .ok (.aload_n 0, 1) := by decide +kernel
theorem dX7_init_27 : decode cX7_init 27 = .ok (.new 23, 3) := by decide +kernel
theorem dX7_init_30 : decode cX7_init 30 = .ok (.dup, 1) := by decide +kernel
theorem dX7_init_31 : decode cX7_init 31 = .ok (.invokespecial 25, 3) := by decide +kernel
theorem dX7_init_34 : decode cX7_init 34 = .ok (.putfield 26, 3) := by decide +kernel
theorem dX7_init_37 : decode cX7_init 37 = .ok (.aload_n 0, 1) := by decide +kernel
theorem dX7_init_38 : decode cX7_init 38 = .ok (.new 30, 3) := by decide +kernel
theorem dX7_init_41 : decode cX7_init 41 = .ok (.dup, 1) := by decide +kernel
theorem dX7_init_42 : decode cX7_init 42 = .ok (.invokespecial 32, 3) := by decide +kernel
theorem dX7_init_45 : decode cX7_init 45 = .ok (.putfield 33, 3) := by decide +kernel
theorem dX7_init_48 : decode cX7_init 48 = .ok (.aload_n 0, 1) := by decide +kernel
theorem dX7_init_49 : decode cX7_init 49 = .ok (.new 37, 3) := by decide +kernel
theorem dX7_init_52 : decode cX7_init 52 = .ok (.dup, 1) := by decide +kernel
theorem dX7_init_53 : decode cX7_init 53 = .ok (.invokespecial 39, 3) := by decide +kernel
theorem dX7_init_56 : decode cX7_init 56 = .ok (.putfield 40, 3) := by decide +kernel
theorem dX7_init_59 : decode cX7_init 59 = .ok (.aload_n 0, 1) := by decide +kernel
theorem dX7_init_60 : decode cX7_init 60 = .ok (.new 37, 3) := by decide +kernel
theorem dX7_init_63 : decode cX7_init 63 = .ok (.dup, 1) := by decide +kernel
theorem dX7_init_64 : decode cX7_init 64 = .ok (.invokespecial 39, 3) := by decide +kernel
theorem dX7_init_67 : decode cX7_init 67 = .ok (.putfield 44, 3) := by decide +kernel
theorem dX7_init_70 : decode cX7_init 70 = .ok (.aload_n 0, 1) := by decide +kernel
theorem dX7_init_71 : decode cX7_init 71 = .ok (.iconst (-1), 1) := by decide +kernel
theorem dX7_init_72 : decode cX7_init 72 = .ok (.putfield 47, 3) := by decide +kernel
theorem dX7_init_75 : decode cX7_init 75 = .ok (.return_, 1) := by decide +kernel
theorem dX7_feed_0 : decode cX7_feed 0 = .ok (.aload_n 0, 1) := by decide +kernel
theorem dX7_feed_1 : decode cX7_feed 1 = .ok (.getfield 10, 3) := by decide +kernel
theorem dX7_feed_4 : decode cX7_feed 4 = .ok (.getfield 51, 3) := by decide +kernel
theorem dX7_feed_7 : decode cX7_feed 7 = .ok (.sipush 1980, 3) := by decide +kernel
theorem dX7_feed_10 : decode cX7_feed 10 = .ok (.if_icmp .le 13, 3) := by decide +kernel
theorem dX7_feed_13 : decode cX7_feed 13 = .ok (.new 54, 3) := by decide +kernel
theorem dX7_feed_16 : decode cX7_feed 16 = .ok (.dup, 1) := by decide +kernel
theorem dX7_feed_17 : decode cX7_feed 17 = .ok (.ldc 56, 2) := by decide +kernel
theorem dX7_feed_19 : decode cX7_feed 19 = .ok (.invokespecial 58, 3) := by decide +kernel
theorem dX7_feed_22 : decode cX7_feed 22 = .ok (.athrow, 1) := by decide +kernel
theorem dX7_feed_23 : decode cX7_feed 23 = .ok (.aload_n 0, 1) := by decide +kernel
theorem dX7_feed_24 : decode cX7_feed 24 = .ok (.getfield 10, 3) := by decide +kernel
theorem dX7_feed_27 : decode cX7_feed 27 = .ok (.iload_n 1, 1) := by decide +kernel
theorem dX7_feed_28 : decode cX7_feed 28 = .ok (.invokevirtual 61, 3) := by decide +kernel
theorem dX7_feed_31 : decode cX7_feed 31 = .ok (.aload_n 0, 1) := by decide +kernel
theorem dX7_feed_32 : decode cX7_feed 32 = .ok (.getfield 10, 3) := by decide +kernel
theorem dX7_feed_35 : decode cX7_feed 35 = .ok (.iload_n 2, 1) := by decide +kernel
theorem dX7_feed_36 : decode cX7_feed 36 = .ok (.invokevirtual 61, 3) := by decide +kernel
theorem dX7_feed_39 : decode cX7_feed 39 = .ok (.aload_n 0, 1) := by decide +kernel
theorem dX7_feed_40 : decode cX7_feed 40 = .ok (.getfield 10, 3) := by decide +kernel
theorem dX7_feed_43 : decode cX7_feed 43 = .ok (.iload_n 3, 1) := by decide +kernel
theorem dX7_feed_44 : decode cX7_feed 44 = .ok (.invokevirtual 61, 3) := by decide +kernel
theorem dX7_feed_47 : decode cX7_feed 47 = .ok (.aload_n 0, 1) := by decide +kernel
theorem dX7_feed_48 : decode cX7_feed 48 = .ok (.getfield 10, 3) := by decide +kernel
theorem dX7_feed_51 : decode cX7_feed 51 = .ok (.iload 4, 2) := by decide +kernel
theorem dX7_feed_53 : decode cX7_feed 53 = .ok (.invokevirtual 61, 3) := by decide +kernel
theorem dX7_feed_56 : decode cX7_feed 56 = .ok (.aload_n 0, 1) := by decide +kernel
theorem dX7_feed_57 : decode cX7_feed 57 = .ok (.getfield 10, 3) := by decide +kernel
theorem dX7_feed_60 : decode cX7_feed 60 = .ok (.iload 5, 2) := by decide +kernel
theorem dX7_feed_62 : decode cX7_feed 62 = .ok (.invokevirtual 61, 3) := by decide +kernel
theorem dX7_feed_65 : decode cX7_feed 65 = .ok (.aload_n 0, 1) := by decide +kernel
theorem dX7_feed_66 : decode cX7_feed 66 = .ok (.getfield 10, 3) := by decide +kernel
theorem dX7_feed_69 : decode cX7_feed 69 = .ok (.getfield 51, 3) := by decide +kernel
theorem dX7_feed_72 : decode cX7_feed 72 = .ok (.ireturn, 1) := by decide +kernel
theorem dX7_trim_0 : decode cX7_trim 0 = .ok (.iload_n 1, 1) := by decide +kernel
theorem dX7_trim_1 : decode cX7_trim 1 = .ok (.ifCond .lt 14, 3) := by decide +kernel
theorem dX7_trim_4 : decode cX7_trim 4 = .ok (.iload_n 1, 1) := by decide +kernel
theorem dX7_trim_5 : decode cX7_trim 5 = .ok (.aload_n 0, 1) := by decide +kernel
theorem dX7_trim_6 : decode cX7_trim 6 = .ok (.getfield 10, 3) := by decide +kernel
theorem dX7_trim_9 : decode cX7_trim 9 = .ok (.getfield 51, 3) := by decide +kernel
theorem dX7_trim_12 : decode cX7_trim 12 = .ok (.if_icmp .le 13, 3) := by decide +kernel
theorem dX7_trim_15 : decode cX7_trim 15 = .ok (.new 65, 3) := by decide +kernel
theorem dX7_trim_18 : decode cX7_trim 18 = .ok (.dup, 1) := by decide +kernel
theorem dX7_trim_19 : decode cX7_trim 19 = .ok (.ldc 67, 2) := by decide +kernel
theorem dX7_trim_21 : decode cX7_trim 21 = .ok (.invokespecial 69, 3) := by decide +kernel
theorem dX7_trim_24 : decode cX7_trim 24 = .ok (.athrow, 1) := by decide +kernel
theorem dX7_trim_25 : decode cX7_trim 25 = .ok (.aload_n 0, 1) := by decide +kernel
theorem dX7_trim_26 : decode cX7_trim 26 = .ok (.getfield 10, 3) := by decide +kernel
theorem dX7_trim_29 : decode cX7_trim 29 = .ok (.iload_n 1, 1) := by decide +kernel
theorem dX7_trim_30 : decode cX7_trim 30 = .ok (.invokevirtual 70, 3) := by decide +kernel
theorem dX7_trim_33 : decode cX7_trim 33 = .ok (.iload_n 1, 1) := by decide +kernel
theorem dX7_trim_34 : decode cX7_trim 34 = .ok (.ireturn, 1) := by decide +kernel
theorem dX7_teach_0 : decode cX7_teach 0 = .ok (.aload_n 0, 1) := by decide +kernel
theorem dX7_teach_1 : decode cX7_teach 1 = .ok (.getfield 19, 3) := by decide +kernel
theorem dX7_teach_4 : decode cX7_teach 4 = .ok (.aload_n 0, 1) := by decide +kernel
theorem dX7_teach_5 : decode cX7_teach 5 = .ok (.getfield 10, 3) := by decide +kernel
theorem dX7_teach_8 : decode cX7_teach 8 = .ok (.invokevirtual 73, 3) := by decide +kernel
theorem dX7_teach_11 : decode cX7_teach 11 = .ok (.istore_n 1, 1) := by decide +kernel
theorem dX7_teach_12 : decode cX7_teach 12 = .ok (.iload_n 1, 1) := by decide +kernel
theorem dX7_teach_13 : decode cX7_teach 13 = .ok (.iconst (-1), 1) := by decide +kernel
theorem dX7_teach_14 : decode cX7_teach 14 = .ok (.if_icmp .ne 7, 3) := by decide +kernel
theorem dX7_teach_17 : decode cX7_teach 17 = .ok (.iconst 0, 1) := by decide +kernel
theorem dX7_teach_18 : decode cX7_teach 18 = .ok (.goto 4, 3) := by decide +kernel
theorem dX7_teach_21 : decode cX7_teach 21 = .ok (.iconst 1, 1) := by decide +kernel
theorem dX7_teach_22 : decode cX7_teach 22 = .ok (.istore_n 2, 1) := by decide +kernel
theorem dX7_teach_23 : decode cX7_teach 23 = .ok (.iload_n 2, 1) := by decide +kernel
theorem dX7_teach_24 : decode cX7_teach 24 = .ok (.ifCond .ne 34, 3) := by decide +kernel
theorem dX7_teach_27 : decode cX7_teach 27 = .ok (.aload_n 0, 1) := by decide +kernel
theorem dX7_teach_28 : decode cX7_teach 28 = .ok (.getfield 44, 3) := by decide +kernel
theorem dX7_teach_31 : decode cX7_teach 31 = .ok (.invokevirtual 77, 3) := by decide +kernel
theorem dX7_teach_34 : decode cX7_teach 34 = .ok (.aload_n 0, 1) := by decide +kernel
theorem dX7_teach_35 : decode cX7_teach 35 = .ok (.getfield 26, 3) := by decide +kernel
theorem dX7_teach_38 : decode cX7_teach 38 = .ok (.aload_n 0, 1) := by decide +kernel
theorem dX7_teach_39 : decode cX7_teach 39 = .ok (.getfield 19, 3) := by decide +kernel
theorem dX7_teach_42 : decode cX7_teach 42 = .ok (.aload_n 0, 1) := by decide +kernel
theorem dX7_teach_43 : decode cX7_teach 43 = .ok (.getfield 44, 3) := by decide +kernel
theorem dX7_teach_46 : decode cX7_teach 46 = .ok (.invokevirtual 80, 3) := by decide +kernel
theorem dX7_teach_49 : decode cX7_teach 49 = .ok (.istore_n 2, 1) := by decide +kernel
theorem dX7_teach_50 : decode cX7_teach 50 = .ok (.aload_n 0, 1) := by decide +kernel
theorem dX7_teach_51 : decode cX7_teach 51 = .ok (.getfield 26, 3) := by decide +kernel
theorem dX7_teach_54 : decode cX7_teach 54 = .ok (.getfield 84, 3) := by decide +kernel
theorem dX7_teach_57 : decode cX7_teach 57 = .ok (.istore_n 1, 1) := by decide +kernel
theorem dX7_teach_58 : decode cX7_teach 58 = .ok (.iload_n 2, 1) := by decide +kernel
theorem dX7_teach_59 : decode cX7_teach 59 = .ok (.ifCond .ne 21, 3) := by decide +kernel
theorem dX7_teach_62 : decode cX7_teach 62 = .ok (.aload_n 0, 1) := by decide +kernel
theorem dX7_teach_63 : decode cX7_teach 63 = .ok (.getfield 40, 3) := by decide +kernel
theorem dX7_teach_66 : decode cX7_teach 66 = .ok (.astore_n 3, 1) := by decide +kernel
theorem dX7_teach_67 : decode cX7_teach 67 = .ok (.aload_n 0, 1) := by decide +kernel
theorem dX7_teach_68 : decode cX7_teach 68 = .ok (.aload_n 0, 1) := by decide +kernel
theorem dX7_teach_69 : decode cX7_teach 69 = .ok (.getfield 44, 3) := by decide +kernel
theorem dX7_teach_72 : decode cX7_teach 72 = .ok (.putfield 40, 3) := by decide +kernel
theorem dX7_teach_75 : decode cX7_teach 75 = .ok (.aload_n 0, 1) := by decide +kernel
theorem dX7_teach_76 : decode cX7_teach 76 = .ok (.aload_n 3, 1) := by decide +kernel
theorem dX7_teach_77 : decode cX7_teach 77 = .ok (.putfield 44, 3) := by decide +kernel
theorem dX7_teach_80 : decode cX7_teach 80 = .ok (.aload_n 0, 1) := by decide +kernel
theorem dX7_teach_81 : decode cX7_teach 81 = .ok (.iload_n 1, 1) := by decide +kernel
theorem dX7_teach_82 : decode cX7_teach 82 = .ok (.putfield 47, 3) := by decide +kernel
theorem dX7_teach_85 : decode cX7_teach 85 = .ok (.aload_n 0, 1) := by decide +kernel
theorem dX7_teach_86 : decode cX7_teach 86 = .ok (.getfield 10, 3) := by decide +kernel
theorem dX7_teach_89 : decode cX7_teach 89 = .ok (.iconst 0, 1) := by decide +kernel
theorem dX7_teach_90 : decode cX7_teach 90 = .ok (.invokevirtual 70, 3) := by decide +kernel
theorem dX7_teach_93 : decode cX7_teach 93 = .ok (.iload_n 2, 1) := by decide +kernel
theorem dX7_teach_94 : decode cX7_teach 94 = .ok (.ireturn, 1) := by decide +kernel
theorem dX7_errorAt_0 : decode cX7_errorAt 0 = .ok (.aload_n 0, 1) := by decide +kernel
theorem dX7_errorAt_1 : decode cX7_errorAt 1 = .ok (.getfield 47, 3) := by decide +kernel
theorem dX7_errorAt_4 : decode cX7_errorAt 4 = .ok (.ireturn, 1) := by decide +kernel
theorem dX7_count_0 : decode cX7_count 0 = .ok (.iload_n 1, 1) := by decide +kernel
theorem dX7_count_1 : decode cX7_count 1 = .ok (.ifCond .lt 9, 3) := by decide +kernel
theorem dX7_count_4 : decode cX7_count 4 = .ok (.iload_n 1, 1) := by decide +kernel
theorem dX7_count_5 : decode cX7_count 5 = .ok (.bipush 11, 2) := by decide +kernel
theorem dX7_count_7 : decode cX7_count 7 = .ok (.if_icmp .lt 13, 3) := by decide +kernel
theorem dX7_count_10 : decode cX7_count 10 = .ok (.new 85, 3) := by decide +kernel
theorem dX7_count_13 : decode cX7_count 13 = .ok (.dup, 1) := by decide +kernel
theorem dX7_count_14 : decode cX7_count 14 = .ok (.ldc 87, 2) := by decide +kernel
theorem dX7_count_16 : decode cX7_count 16 = .ok (.invokespecial 89, 3) := by decide +kernel
theorem dX7_count_19 : decode cX7_count 19 = .ok (.athrow, 1) := by decide +kernel
theorem dX7_count_20 : decode cX7_count 20 = .ok (.aload_n 0, 1) := by decide +kernel
theorem dX7_count_21 : decode cX7_count 21 = .ok (.iload_n 1, 1) := by decide +kernel
theorem dX7_count_22 : decode cX7_count 22 = .ok (.invokevirtual 90, 3) := by decide +kernel
theorem dX7_count_25 : decode cX7_count 25 = .ok (.ireturn, 1) := by decide +kernel
theorem dX7_cell_0 : decode cX7_cell 0 = .ok (.iload_n 1, 1) := by decide +kernel
theorem dX7_cell_1 : decode cX7_cell 1 = .ok (.invokestatic 94, 3) := by decide +kernel
theorem dX7_cell_4 : decode cX7_cell 4 = .ok (.ifCond .eq 13, 3) := by decide +kernel
theorem dX7_cell_7 : decode cX7_cell 7 = .ok (.iload_n 2, 1) := by decide +kernel
theorem dX7_cell_8 : decode cX7_cell 8 = .ok (.ifCond .lt 9, 3) := by decide +kernel
theorem dX7_cell_11 : decode cX7_cell 11 = .ok (.iload_n 2, 1) := by decide +kernel
theorem dX7_cell_12 : decode cX7_cell 12 = .ok (.bipush 6, 2) := by decide +kernel
theorem dX7_cell_14 : decode cX7_cell 14 = .ok (.if_icmp .lt 13, 3) := by decide +kernel
theorem dX7_cell_17 : decode cX7_cell 17 = .ok (.new 85, 3) := by decide +kernel
theorem dX7_cell_20 : decode cX7_cell 20 = .ok (.dup, 1) := by decide +kernel
theorem dX7_cell_21 : decode cX7_cell 21 = .ok (.ldc 98, 2) := by decide +kernel
theorem dX7_cell_23 : decode cX7_cell 23 = .ok (.invokespecial 89, 3) := by decide +kernel
theorem dX7_cell_26 : decode cX7_cell 26 = .ok (.athrow, 1) := by decide +kernel
theorem dX7_cell_27 : decode cX7_cell 27 = .ok (.aload_n 0, 1) := by decide +kernel
theorem dX7_cell_28 : decode cX7_cell 28 = .ok (.iload_n 1, 1) := by decide +kernel
theorem dX7_cell_29 : decode cX7_cell 29 = .ok (.iload_n 2, 1) := by decide +kernel
theorem dX7_cell_30 : decode cX7_cell 30 = .ok (.invokevirtual 100, 3) := by decide +kernel
theorem dX7_cell_33 : decode cX7_cell 33 = .ok (.ireturn, 1) := by decide +kernel
theorem dX7_at_0 : decode cX7_at 0 = .ok (.iload_n 1, 1) := by decide +kernel
theorem dX7_at_1 : decode cX7_at 1 = .ok (.iload_n 2, 1) := by decide +kernel
theorem dX7_at_2 : decode cX7_at 2 = .ok (.invokestatic 104, 3) := by decide +kernel
theorem dX7_at_5 : decode cX7_at 5 = .ok (.istore_n 3, 1) := by decide +kernel
theorem dX7_at_6 : decode cX7_at 6 = .ok (.iload_n 3, 1) := by decide +kernel
theorem dX7_at_7 : decode cX7_at 7 = .ok (.iconst (-1), 1) := by decide +kernel
theorem dX7_at_8 : decode cX7_at 8 = .ok (.if_icmp .ne 13, 3) := by decide +kernel
theorem dX7_at_11 : decode cX7_at 11 = .ok (.new 85, 3) := by decide +kernel
theorem dX7_at_14 : decode cX7_at 14 = .ok (.dup, 1) := by decide +kernel
theorem dX7_at_15 : decode cX7_at 15 = .ok (.ldc 107, 2) := by decide +kernel
theorem dX7_at_17 : decode cX7_at 17 = .ok (.invokespecial 89, 3) := by decide +kernel
theorem dX7_at_20 : decode cX7_at 20 = .ok (.athrow, 1) := by decide +kernel
theorem dX7_at_21 : decode cX7_at 21 = .ok (.iload_n 3, 1) := by decide +kernel
theorem dX7_at_22 : decode cX7_at 22 = .ok (.ireturn, 1) := by decide +kernel
theorem dX7_name_0 : decode cX7_name 0 = .ok (.iload_n 1, 1) := by decide +kernel
theorem dX7_name_1 : decode cX7_name 1 = .ok (.invokestatic 94, 3) := by decide +kernel
theorem dX7_name_4 : decode cX7_name 4 = .ok (.ifCond .ne 13, 3) := by decide +kernel
theorem dX7_name_7 : decode cX7_name 7 = .ok (.new 85, 3) := by decide +kernel
theorem dX7_name_10 : decode cX7_name 10 = .ok (.dup, 1) := by decide +kernel
theorem dX7_name_11 : decode cX7_name 11 = .ok (.ldc 109, 2) := by decide +kernel
theorem dX7_name_13 : decode cX7_name 13 = .ok (.invokespecial 89, 3) := by decide +kernel
theorem dX7_name_16 : decode cX7_name 16 = .ok (.athrow, 1) := by decide +kernel
theorem dX7_name_17 : decode cX7_name 17 = .ok (.iload_n 1, 1) := by decide +kernel
theorem dX7_name_18 : decode cX7_name 18 = .ok (.invokestatic 111, 3) := by decide +kernel
theorem dX7_name_21 : decode cX7_name 21 = .ok (.ireturn, 1) := by decide +kernel
theorem dX7_far_0 : decode cX7_far 0 = .ok (.iload_n 1, 1) := by decide +kernel
theorem dX7_far_1 : decode cX7_far 1 = .ok (.iconst 1, 1) := by decide +kernel
theorem dX7_far_2 : decode cX7_far 2 = .ok (.if_icmp .lt 8, 3) := by decide +kernel
theorem dX7_far_5 : decode cX7_far 5 = .ok (.iload_n 1, 1) := by decide +kernel
theorem dX7_far_6 : decode cX7_far 6 = .ok (.iconst 5, 1) := by decide +kernel
theorem dX7_far_7 : decode cX7_far 7 = .ok (.if_icmp .le 13, 3) := by decide +kernel
theorem dX7_far_10 : decode cX7_far 10 = .ok (.new 65, 3) := by decide +kernel
theorem dX7_far_13 : decode cX7_far 13 = .ok (.dup, 1) := by decide +kernel
theorem dX7_far_14 : decode cX7_far 14 = .ok (.ldc 114, 2) := by decide +kernel
theorem dX7_far_16 : decode cX7_far 16 = .ok (.invokespecial 69, 3) := by decide +kernel
theorem dX7_far_19 : decode cX7_far 19 = .ok (.athrow, 1) := by decide +kernel
theorem dX7_far_20 : decode cX7_far 20 = .ok (.iload_n 2, 1) := by decide +kernel
theorem dX7_far_21 : decode cX7_far 21 = .ok (.invokestatic 94, 3) := by decide +kernel
theorem dX7_far_24 : decode cX7_far 24 = .ok (.ifCond .eq 10, 3) := by decide +kernel
theorem dX7_far_27 : decode cX7_far 27 = .ok (.iload_n 3, 1) := by decide +kernel
theorem dX7_far_28 : decode cX7_far 28 = .ok (.invokestatic 94, 3) := by decide +kernel
theorem dX7_far_31 : decode cX7_far 31 = .ok (.ifCond .ne 13, 3) := by decide +kernel
theorem dX7_far_34 : decode cX7_far 34 = .ok (.new 85, 3) := by decide +kernel
theorem dX7_far_37 : decode cX7_far 37 = .ok (.dup, 1) := by decide +kernel
theorem dX7_far_38 : decode cX7_far 38 = .ok (.ldc 109, 2) := by decide +kernel
theorem dX7_far_40 : decode cX7_far 40 = .ok (.invokespecial 89, 3) := by decide +kernel
theorem dX7_far_43 : decode cX7_far 43 = .ok (.athrow, 1) := by decide +kernel
theorem dX7_far_44 : decode cX7_far 44 = .ok (.aload_n 0, 1) := by decide +kernel
theorem dX7_far_45 : decode cX7_far 45 = .ok (.getfield 33, 3) := by decide +kernel
theorem dX7_far_48 : decode cX7_far 48 = .ok (.iload_n 1, 1) := by decide +kernel
theorem dX7_far_49 : decode cX7_far 49 = .ok (.iload_n 2, 1) := by decide +kernel
theorem dX7_far_50 : decode cX7_far 50 = .ok (.invokestatic 116, 3) := by decide +kernel
theorem dX7_far_53 : decode cX7_far 53 = .ok (.iload_n 3, 1) := by decide +kernel
theorem dX7_far_54 : decode cX7_far 54 = .ok (.invokestatic 116, 3) := by decide +kernel
theorem dX7_far_57 : decode cX7_far 57 = .ok (.invokevirtual 119, 3) := by decide +kernel
theorem dX7_far_60 : decode cX7_far 60 = .ok (.ireturn, 1) := by decide +kernel
theorem dX7_legal_0 : decode cX7_legal 0 = .ok (.iload_n 1, 1) := by decide +kernel
theorem dX7_legal_1 : decode cX7_legal 1 = .ok (.invokestatic 94, 3) := by decide +kernel
theorem dX7_legal_4 : decode cX7_legal 4 = .ok (.ifCond .eq 10, 3) := by decide +kernel
theorem dX7_legal_7 : decode cX7_legal 7 = .ok (.iload_n 2, 1) := by decide +kernel
theorem dX7_legal_8 : decode cX7_legal 8 = .ok (.invokestatic 94, 3) := by decide +kernel
theorem dX7_legal_11 : decode cX7_legal 11 = .ok (.ifCond .ne 13, 3) := by decide +kernel
theorem dX7_legal_14 : decode cX7_legal 14 = .ok (.new 85, 3) := by decide +kernel
theorem dX7_legal_17 : decode cX7_legal 17 = .ok (.dup, 1) := by decide +kernel
theorem dX7_legal_18 : decode cX7_legal 18 = .ok (.ldc 109, 2) := by decide +kernel
theorem dX7_legal_20 : decode cX7_legal 20 = .ok (.invokespecial 89, 3) := by decide +kernel
theorem dX7_legal_23 : decode cX7_legal 23 = .ok (.athrow, 1) := by decide +kernel
theorem dX7_legal_24 : decode cX7_legal 24 = .ok (.aload_n 0, 1) := by decide +kernel
theorem dX7_legal_25 : decode cX7_legal 25 = .ok (.getfield 40, 3) := by decide +kernel
theorem dX7_legal_28 : decode cX7_legal 28 = .ok (.iload_n 1, 1) := by decide +kernel
theorem dX7_legal_29 : decode cX7_legal 29 = .ok (.iload_n 2, 1) := by decide +kernel
theorem dX7_legal_30 : decode cX7_legal 30 = .ok (.invokevirtual 123, 3) := by decide +kernel
theorem dX7_legal_33 : decode cX7_legal 33 = .ok (.ireturn, 1) := by decide +kernel
theorem dX7_nth_0 : decode cX7_nth 0 = .ok (.iload_n 1, 1) := by decide +kernel
theorem dX7_nth_1 : decode cX7_nth 1 = .ok (.ifCond .lt 14, 3) := by decide +kernel
theorem dX7_nth_4 : decode cX7_nth 4 = .ok (.iload_n 1, 1) := by decide +kernel
theorem dX7_nth_5 : decode cX7_nth 5 = .ok (.aload_n 0, 1) := by decide +kernel
theorem dX7_nth_6 : decode cX7_nth 6 = .ok (.getfield 40, 3) := by decide +kernel
theorem dX7_nth_9 : decode cX7_nth 9 = .ok (.invokevirtual 127, 3) := by decide +kernel
theorem dX7_nth_12 : decode cX7_nth 12 = .ok (.if_icmp .lt 13, 3) := by decide +kernel
theorem dX7_nth_15 : decode cX7_nth 15 = .ok (.new 85, 3) := by decide +kernel
theorem dX7_nth_18 : decode cX7_nth 18 = .ok (.dup, 1) := by decide +kernel
theorem dX7_nth_19 : decode cX7_nth 19 = .ok (.ldc 131, 2) := by decide +kernel
theorem dX7_nth_21 : decode cX7_nth 21 = .ok (.invokespecial 89, 3) := by decide +kernel
theorem dX7_nth_24 : decode cX7_nth 24 = .ok (.athrow, 1) := by decide +kernel
theorem dX7_nth_25 : decode cX7_nth 25 = .ok (.aload_n 0, 1) := by decide +kernel
theorem dX7_nth_26 : decode cX7_nth 26 = .ok (.getfield 40, 3) := by decide +kernel
theorem dX7_nth_29 : decode cX7_nth 29 = .ok (.iload_n 1, 1) := by decide +kernel
theorem dX7_nth_30 : decode cX7_nth 30 = .ok (.invokevirtual 133, 3) := by decide +kernel
theorem dX7_nth_33 : decode cX7_nth 33 = .ok (.ireturn, 1) := by decide +kernel
theorem dX7_move_0 : decode cX7_move 0 = .ok (.iload_n 1, 1) := by decide +kernel
theorem dX7_move_1 : decode cX7_move 1 = .ok (.invokestatic 94, 3) := by decide +kernel
theorem dX7_move_4 : decode cX7_move 4 = .ok (.ifCond .eq 10, 3) := by decide +kernel
theorem dX7_move_7 : decode cX7_move 7 = .ok (.iload_n 2, 1) := by decide +kernel
theorem dX7_move_8 : decode cX7_move 8 = .ok (.invokestatic 94, 3) := by decide +kernel
theorem dX7_move_11 : decode cX7_move 11 = .ok (.ifCond .ne 13, 3) := by decide +kernel
theorem dX7_move_14 : decode cX7_move 14 = .ok (.new 85, 3) := by decide +kernel
theorem dX7_move_17 : decode cX7_move 17 = .ok (.dup, 1) := by decide +kernel
theorem dX7_move_18 : decode cX7_move 18 = .ok (.ldc 109, 2) := by decide +kernel
theorem dX7_move_20 : decode cX7_move 20 = .ok (.invokespecial 89, 3) := by decide +kernel
theorem dX7_move_23 : decode cX7_move 23 = .ok (.athrow, 1) := by decide +kernel
theorem dX7_move_24 : decode cX7_move 24 = .ok (.iload_n 3, 1) := by decide +kernel
theorem dX7_move_25 : decode cX7_move 25 = .ok (.iconst 2, 1) := by decide +kernel
theorem dX7_move_26 : decode cX7_move 26 = .ok (.if_icmp .lt 8, 3) := by decide +kernel
theorem dX7_move_29 : decode cX7_move 29 = .ok (.iload_n 3, 1) := by decide +kernel
theorem dX7_move_30 : decode cX7_move 30 = .ok (.iconst 5, 1) := by decide +kernel
theorem dX7_move_31 : decode cX7_move 31 = .ok (.if_icmp .le 13, 3) := by decide +kernel
theorem dX7_move_34 : decode cX7_move 34 = .ok (.new 65, 3) := by decide +kernel
theorem dX7_move_37 : decode cX7_move 37 = .ok (.dup, 1) := by decide +kernel
theorem dX7_move_38 : decode cX7_move 38 = .ok (.ldc 136, 2) := by decide +kernel
theorem dX7_move_40 : decode cX7_move 40 = .ok (.invokespecial 69, 3) := by decide +kernel
theorem dX7_move_43 : decode cX7_move 43 = .ok (.athrow, 1) := by decide +kernel
theorem dX7_move_44 : decode cX7_move 44 = .ok (.aload_n 0, 1) := by decide +kernel
theorem dX7_move_45 : decode cX7_move 45 = .ok (.getfield 40, 3) := by decide +kernel
theorem dX7_move_48 : decode cX7_move 48 = .ok (.invokevirtual 138, 3) := by decide +kernel
theorem dX7_move_51 : decode cX7_move 51 = .ok (.ifCond .ne 15, 3) := by decide +kernel
theorem dX7_move_54 : decode cX7_move 54 = .ok (.aload_n 0, 1) := by decide +kernel
theorem dX7_move_55 : decode cX7_move 55 = .ok (.getfield 40, 3) := by decide +kernel
theorem dX7_move_58 : decode cX7_move 58 = .ok (.iload_n 1, 1) := by decide +kernel
theorem dX7_move_59 : decode cX7_move 59 = .ok (.iload_n 2, 1) := by decide +kernel
theorem dX7_move_60 : decode cX7_move 60 = .ok (.invokevirtual 123, 3) := by decide +kernel
theorem dX7_move_63 : decode cX7_move 63 = .ok (.ifCond .ne 13, 3) := by decide +kernel
theorem dX7_move_66 : decode cX7_move 66 = .ok (.new 54, 3) := by decide +kernel
theorem dX7_move_69 : decode cX7_move 69 = .ok (.dup, 1) := by decide +kernel
theorem dX7_move_70 : decode cX7_move 70 = .ok (.ldc 142, 2) := by decide +kernel
theorem dX7_move_72 : decode cX7_move 72 = .ok (.invokespecial 58, 3) := by decide +kernel
theorem dX7_move_75 : decode cX7_move 75 = .ok (.athrow, 1) := by decide +kernel
theorem dX7_move_76 : decode cX7_move 76 = .ok (.aload_n 0, 1) := by decide +kernel
theorem dX7_move_77 : decode cX7_move 77 = .ok (.getfield 40, 3) := by decide +kernel
theorem dX7_move_80 : decode cX7_move 80 = .ok (.iload_n 1, 1) := by decide +kernel
theorem dX7_move_81 : decode cX7_move 81 = .ok (.iload_n 2, 1) := by decide +kernel
theorem dX7_move_82 : decode cX7_move 82 = .ok (.iload_n 3, 1) := by decide +kernel
theorem dX7_move_83 : decode cX7_move 83 = .ok (.invokevirtual 144, 3) := by decide +kernel
theorem dX7_move_86 : decode cX7_move 86 = .ok (.ireturn, 1) := by decide +kernel
theorem dX7_back_0 : decode cX7_back 0 = .ok (.aload_n 0, 1) := by decide +kernel
theorem dX7_back_1 : decode cX7_back 1 = .ok (.getfield 40, 3) := by decide +kernel
theorem dX7_back_4 : decode cX7_back 4 = .ok (.getfield 147, 3) := by decide +kernel
theorem dX7_back_7 : decode cX7_back 7 = .ok (.ifCond .ne 13, 3) := by decide +kernel
theorem dX7_back_10 : decode cX7_back 10 = .ok (.new 54, 3) := by decide +kernel
theorem dX7_back_13 : decode cX7_back 13 = .ok (.dup, 1) := by decide +kernel
theorem dX7_back_14 : decode cX7_back 14 = .ok (.ldc 150, 2) := by decide +kernel
theorem dX7_back_16 : decode cX7_back 16 = .ok (.invokespecial 58, 3) := by decide +kernel
theorem dX7_back_19 : decode cX7_back 19 = .ok (.athrow, 1) := by decide +kernel
theorem dX7_back_20 : decode cX7_back 20 = .ok (.aload_n 0, 1) := by decide +kernel
theorem dX7_back_21 : decode cX7_back 21 = .ok (.getfield 40, 3) := by decide +kernel
theorem dX7_back_24 : decode cX7_back 24 = .ok (.invokevirtual 152, 3) := by decide +kernel
theorem dX7_back_27 : decode cX7_back 27 = .ok (.aload_n 0, 1) := by decide +kernel
theorem dX7_back_28 : decode cX7_back 28 = .ok (.getfield 40, 3) := by decide +kernel
theorem dX7_back_31 : decode cX7_back 31 = .ok (.getfield 147, 3) := by decide +kernel
theorem dX7_back_34 : decode cX7_back 34 = .ok (.ireturn, 1) := by decide +kernel
theorem dX7_lines_0 : decode cX7_lines 0 = .ok (.iload_n 1, 1) := by decide +kernel
theorem dX7_lines_1 : decode cX7_lines 1 = .ok (.iconst 1, 1) := by decide +kernel
theorem dX7_lines_2 : decode cX7_lines 2 = .ok (.if_icmp .eq 18, 3) := by decide +kernel
theorem dX7_lines_5 : decode cX7_lines 5 = .ok (.iload_n 1, 1) := by decide +kernel
theorem dX7_lines_6 : decode cX7_lines 6 = .ok (.iconst 2, 1) := by decide +kernel
theorem dX7_lines_7 : decode cX7_lines 7 = .ok (.if_icmp .eq 13, 3) := by decide +kernel
theorem dX7_lines_10 : decode cX7_lines 10 = .ok (.new 65, 3) := by decide +kernel
theorem dX7_lines_13 : decode cX7_lines 13 = .ok (.dup, 1) := by decide +kernel
theorem dX7_lines_14 : decode cX7_lines 14 = .ok (.ldc 155, 2) := by decide +kernel
theorem dX7_lines_16 : decode cX7_lines 16 = .ok (.invokespecial 69, 3) := by decide +kernel
theorem dX7_lines_19 : decode cX7_lines 19 = .ok (.athrow, 1) := by decide +kernel
theorem dX7_lines_20 : decode cX7_lines 20 = .ok (.iload_n 1, 1) := by decide +kernel
theorem dX7_lines_21 : decode cX7_lines 21 = .ok (.iconst 1, 1) := by decide +kernel
theorem dX7_lines_22 : decode cX7_lines 22 = .ok (.if_icmp .ne 13, 3) := by decide +kernel
theorem dX7_lines_25 : decode cX7_lines 25 = .ok (.aload_n 0, 1) := by decide +kernel
theorem dX7_lines_26 : decode cX7_lines 26 = .ok (.getfield 40, 3) := by decide +kernel
theorem dX7_lines_29 : decode cX7_lines 29 = .ok (.invokevirtual 127, 3) := by decide +kernel
theorem dX7_lines_32 : decode cX7_lines 32 = .ok (.goto 10, 3) := by decide +kernel
theorem dX7_lines_35 : decode cX7_lines 35 = .ok (.aload_n 0, 1) := by decide +kernel
theorem dX7_lines_36 : decode cX7_lines 36 = .ok (.getfield 40, 3) := by decide +kernel
theorem dX7_lines_39 : decode cX7_lines 39 = .ok (.invokevirtual 157, 3) := by decide +kernel
theorem dX7_lines_42 : decode cX7_lines 42 = .ok (.ireturn, 1) := by decide +kernel
theorem dX7_mate_0 : decode cX7_mate 0 = .ok (.aload_n 0, 1) := by decide +kernel
theorem dX7_mate_1 : decode cX7_mate 1 = .ok (.getfield 40, 3) := by decide +kernel
theorem dX7_mate_4 : decode cX7_mate 4 = .ok (.invokevirtual 160, 3) := by decide +kernel
theorem dX7_mate_7 : decode cX7_mate 7 = .ok (.ireturn, 1) := by decide +kernel
theorem dX7_greed_0 : decode cX7_greed 0 = .ok (.aload_n 0, 1) := by decide +kernel
theorem dX7_greed_1 : decode cX7_greed 1 = .ok (.getfield 40, 3) := by decide +kernel
theorem dX7_greed_4 : decode cX7_greed 4 = .ok (.invokevirtual 163, 3) := by decide +kernel
theorem dX7_greed_7 : decode cX7_greed 7 = .ok (.ireturn, 1) := by decide +kernel
theorem dX7_hanging_0 : decode cX7_hanging 0 = .ok (.iload_n 1, 1) := by decide +kernel
theorem dX7_hanging_1 : decode cX7_hanging 1 = .ok (.ifCond .eq 18, 3) := by decide +kernel
theorem dX7_hanging_4 : decode cX7_hanging 4 = .ok (.iload_n 1, 1) := by decide +kernel
theorem dX7_hanging_5 : decode cX7_hanging 5 = .ok (.iconst 1, 1) := by decide +kernel
theorem dX7_hanging_6 : decode cX7_hanging 6 = .ok (.if_icmp .eq 13, 3) := by decide +kernel
theorem dX7_hanging_9 : decode cX7_hanging 9 = .ok (.new 85, 3) := by decide +kernel
theorem dX7_hanging_12 : decode cX7_hanging 12 = .ok (.dup, 1) := by decide +kernel
theorem dX7_hanging_13 : decode cX7_hanging 13 = .ok (.ldc 166, 2) := by decide +kernel
theorem dX7_hanging_15 : decode cX7_hanging 15 = .ok (.invokespecial 89, 3) := by decide +kernel
theorem dX7_hanging_18 : decode cX7_hanging 18 = .ok (.athrow, 1) := by decide +kernel
theorem dX7_hanging_19 : decode cX7_hanging 19 = .ok (.aload_n 0, 1) := by decide +kernel
theorem dX7_hanging_20 : decode cX7_hanging 20 = .ok (.getfield 40, 3) := by decide +kernel
theorem dX7_hanging_23 : decode cX7_hanging 23 = .ok (.iload_n 1, 1) := by decide +kernel
theorem dX7_hanging_24 : decode cX7_hanging 24 = .ok (.invokevirtual 168, 3) := by decide +kernel
theorem dX7_hanging_27 : decode cX7_hanging 27 = .ok (.ireturn, 1) := by decide +kernel
theorem dX7_mean_0 : decode cX7_mean 0 = .ok (.aload_n 0, 1) := by decide +kernel
theorem dX7_mean_1 : decode cX7_mean 1 = .ok (.getfield 40, 3) := by decide +kernel
theorem dX7_mean_4 : decode cX7_mean 4 = .ok (.getfield 171, 3) := by decide +kernel
theorem dX7_mean_7 : decode cX7_mean 7 = .ok (.aload_n 0, 1) := by decide +kernel
theorem dX7_mean_8 : decode cX7_mean 8 = .ok (.getfield 40, 3) := by decide +kernel
theorem dX7_mean_11 : decode cX7_mean 11 = .ok (.getfield 175, 3) := by decide +kernel
theorem dX7_mean_14 : decode cX7_mean 14 = .ok (.invokevirtual 178, 3) := by decide +kernel
theorem dX7_mean_17 : decode cX7_mean 17 = .ok (.istore_n 1, 1) := by decide +kernel
theorem dX7_mean_18 : decode cX7_mean 18 = .ok (.iload_n 1, 1) := by decide +kernel
theorem dX7_mean_19 : decode cX7_mean 19 = .ok (.ifCond .ne 7, 3) := by decide +kernel
theorem dX7_mean_22 : decode cX7_mean 22 = .ok (.dconst 0, 1) := by decide +kernel
theorem dX7_mean_23 : decode cX7_mean 23 = .ok (.goto 14, 3) := by decide +kernel
theorem dX7_mean_26 : decode cX7_mean 26 = .ok (.aload_n 0, 1) := by decide +kernel
theorem dX7_mean_27 : decode cX7_mean 27 = .ok (.getfield 40, 3) := by decide +kernel
theorem dX7_mean_30 : decode cX7_mean 30 = .ok (.invokevirtual 127, 3) := by decide +kernel
theorem dX7_mean_33 : decode cX7_mean 33 = .ok (.i2d, 1) := by decide +kernel
theorem dX7_mean_34 : decode cX7_mean 34 = .ok (.iload_n 1, 1) := by decide +kernel
theorem dX7_mean_35 : decode cX7_mean 35 = .ok (.i2d, 1) := by decide +kernel
theorem dX7_mean_36 : decode cX7_mean 36 = .ok (.ddiv, 1) := by decide +kernel
theorem dX7_mean_37 : decode cX7_mean 37 = .ok (.dreturn, 1) := by decide +kernel
theorem dX7_digest_0 : decode cX7_digest 0 = .ok (.ldc2_w 183, 3) := by decide +kernel
theorem dX7_digest_3 : decode cX7_digest 3 = .ok (.lstore_n 1, 1) := by decide +kernel
theorem dX7_digest_4 : decode cX7_digest 4 = .ok (.iconst 0, 1) := by decide +kernel
theorem dX7_digest_5 : decode cX7_digest 5 = .ok (.istore_n 3, 1) := by decide +kernel
theorem dX7_digest_6 : decode cX7_digest 6 = .ok (.iload_n 3, 1) := by decide +kernel
theorem dX7_digest_7 : decode cX7_digest 7 = .ok (.bipush 11, 2) := by decide +kernel
theorem dX7_digest_9 : decode cX7_digest 9 = .ok (.if_icmp .ge 22, 3) := by decide +kernel
theorem dX7_digest_12 : decode cX7_digest 12 = .ok (.lload_n 1, 1) := by decide +kernel
theorem dX7_digest_13 : decode cX7_digest 13 = .ok (.ldc2_w 185, 3) := by decide +kernel
theorem dX7_digest_16 : decode cX7_digest 16 = .ok (.lmul, 1) := by decide +kernel
theorem dX7_digest_17 : decode cX7_digest 17 = .ok (.aload_n 0, 1) := by decide +kernel
theorem dX7_digest_18 : decode cX7_digest 18 = .ok (.iload_n 3, 1) := by decide +kernel
theorem dX7_digest_19 : decode cX7_digest 19 = .ok (.invokevirtual 90, 3) := by decide +kernel
theorem dX7_digest_22 : decode cX7_digest 22 = .ok (.i2l, 1) := by decide +kernel
theorem dX7_digest_23 : decode cX7_digest 23 = .ok (.ladd, 1) := by decide +kernel
theorem dX7_digest_24 : decode cX7_digest 24 = .ok (.lstore_n 1, 1) := by decide +kernel
theorem dX7_digest_25 : decode cX7_digest 25 = .ok (.iinc 3 1, 3) := by decide +kernel
theorem dX7_digest_28 : decode cX7_digest 28 = .ok (.goto (-22), 3) := by decide +kernel
theorem dX7_digest_31 : decode cX7_digest 31 = .ok (.iconst 0, 1) := by decide +kernel
theorem dX7_digest_32 : decode cX7_digest 32 = .ok (.istore_n 3, 1) := by decide +kernel
theorem dX7_digest_33 : decode cX7_digest 33 = .ok (.iload_n 3, 1) := by decide +kernel
theorem dX7_digest_34 : decode cX7_digest 34 = .ok (.bipush 91, 2) := by decide +kernel
theorem dX7_digest_36 : decode cX7_digest 36 = .ok (.if_icmp .ge 65, 3) := by decide +kernel
theorem dX7_digest_39 : decode cX7_digest 39 = .ok (.lload_n 1, 1) := by decide +kernel
theorem dX7_digest_40 : decode cX7_digest 40 = .ok (.ldc2_w 185, 3) := by decide +kernel
theorem dX7_digest_43 : decode cX7_digest 43 = .ok (.lmul, 1) := by decide +kernel
theorem dX7_digest_44 : decode cX7_digest 44 = .ok (.aload_n 0, 1) := by decide +kernel
theorem dX7_digest_45 : decode cX7_digest 45 = .ok (.iload_n 3, 1) := by decide +kernel
theorem dX7_digest_46 : decode cX7_digest 46 = .ok (.iconst 0, 1) := by decide +kernel
theorem dX7_digest_47 : decode cX7_digest 47 = .ok (.invokevirtual 100, 3) := by decide +kernel
theorem dX7_digest_50 : decode cX7_digest 50 = .ok (.i2l, 1) := by decide +kernel
theorem dX7_digest_51 : decode cX7_digest 51 = .ok (.ladd, 1) := by decide +kernel
theorem dX7_digest_52 : decode cX7_digest 52 = .ok (.lstore_n 1, 1) := by decide +kernel
theorem dX7_digest_53 : decode cX7_digest 53 = .ok (.lload_n 1, 1) := by decide +kernel
theorem dX7_digest_54 : decode cX7_digest 54 = .ok (.ldc2_w 185, 3) := by decide +kernel
theorem dX7_digest_57 : decode cX7_digest 57 = .ok (.lmul, 1) := by decide +kernel
theorem dX7_digest_58 : decode cX7_digest 58 = .ok (.aload_n 0, 1) := by decide +kernel
theorem dX7_digest_59 : decode cX7_digest 59 = .ok (.iload_n 3, 1) := by decide +kernel
theorem dX7_digest_60 : decode cX7_digest 60 = .ok (.iconst 1, 1) := by decide +kernel
theorem dX7_digest_61 : decode cX7_digest 61 = .ok (.invokevirtual 100, 3) := by decide +kernel
theorem dX7_digest_64 : decode cX7_digest 64 = .ok (.i2l, 1) := by decide +kernel
theorem dX7_digest_65 : decode cX7_digest 65 = .ok (.ladd, 1) := by decide +kernel
theorem dX7_digest_66 : decode cX7_digest 66 = .ok (.lstore_n 1, 1) := by decide +kernel
theorem dX7_digest_67 : decode cX7_digest 67 = .ok (.lload_n 1, 1) := by decide +kernel
theorem dX7_digest_68 : decode cX7_digest 68 = .ok (.ldc2_w 185, 3) := by decide +kernel
theorem dX7_digest_71 : decode cX7_digest 71 = .ok (.lmul, 1) := by decide +kernel
theorem dX7_digest_72 : decode cX7_digest 72 = .ok (.aload_n 0, 1) := by decide +kernel
theorem dX7_digest_73 : decode cX7_digest 73 = .ok (.iload_n 3, 1) := by decide +kernel
theorem dX7_digest_74 : decode cX7_digest 74 = .ok (.iconst 4, 1) := by decide +kernel
theorem dX7_digest_75 : decode cX7_digest 75 = .ok (.invokevirtual 100, 3) := by decide +kernel
theorem dX7_digest_78 : decode cX7_digest 78 = .ok (.i2l, 1) := by decide +kernel
theorem dX7_digest_79 : decode cX7_digest 79 = .ok (.ladd, 1) := by decide +kernel
theorem dX7_digest_80 : decode cX7_digest 80 = .ok (.lstore_n 1, 1) := by decide +kernel
theorem dX7_digest_81 : decode cX7_digest 81 = .ok (.lload_n 1, 1) := by decide +kernel
theorem dX7_digest_82 : decode cX7_digest 82 = .ok (.ldc2_w 185, 3) := by decide +kernel
theorem dX7_digest_85 : decode cX7_digest 85 = .ok (.lmul, 1) := by decide +kernel
theorem dX7_digest_86 : decode cX7_digest 86 = .ok (.aload_n 0, 1) := by decide +kernel
theorem dX7_digest_87 : decode cX7_digest 87 = .ok (.iload_n 3, 1) := by decide +kernel
theorem dX7_digest_88 : decode cX7_digest 88 = .ok (.iconst 5, 1) := by decide +kernel
theorem dX7_digest_89 : decode cX7_digest 89 = .ok (.invokevirtual 100, 3) := by decide +kernel
theorem dX7_digest_92 : decode cX7_digest 92 = .ok (.i2l, 1) := by decide +kernel
theorem dX7_digest_93 : decode cX7_digest 93 = .ok (.ladd, 1) := by decide +kernel
theorem dX7_digest_94 : decode cX7_digest 94 = .ok (.lstore_n 1, 1) := by decide +kernel
theorem dX7_digest_95 : decode cX7_digest 95 = .ok (.iinc 3 1, 3) := by decide +kernel
theorem dX7_digest_98 : decode cX7_digest 98 = .ok (.goto (-65), 3) := by decide +kernel
theorem dX7_digest_101 : decode cX7_digest 101 = .ok (.aload_n 0, 1) := by decide +kernel
theorem dX7_digest_102 : decode cX7_digest 102 = .ok (.getfield 40, 3) := by decide +kernel
theorem dX7_digest_105 : decode cX7_digest 105 = .ok (.invokevirtual 127, 3) := by decide +kernel
theorem dX7_digest_108 : decode cX7_digest 108 = .ok (.istore_n 3, 1) := by decide +kernel
theorem dX7_digest_109 : decode cX7_digest 109 = .ok (.iconst 0, 1) := by decide +kernel
theorem dX7_digest_110 : decode cX7_digest 110 = .ok (.istore 4, 2) := by decide +kernel
theorem dX7_digest_112 : decode cX7_digest 112 = .ok (.iload 4, 2) := by decide +kernel
theorem dX7_digest_114 : decode cX7_digest 114 = .ok (.iload_n 3, 1) := by decide +kernel
theorem dX7_digest_115 : decode cX7_digest 115 = .ok (.if_icmp .ge 26, 3) := by decide +kernel
theorem dX7_digest_118 : decode cX7_digest 118 = .ok (.lload_n 1, 1) := by decide +kernel
theorem dX7_digest_119 : decode cX7_digest 119 = .ok (.ldc2_w 185, 3) := by decide +kernel
theorem dX7_digest_122 : decode cX7_digest 122 = .ok (.lmul, 1) := by decide +kernel
theorem dX7_digest_123 : decode cX7_digest 123 = .ok (.aload_n 0, 1) := by decide +kernel
theorem dX7_digest_124 : decode cX7_digest 124 = .ok (.getfield 40, 3) := by decide +kernel
theorem dX7_digest_127 : decode cX7_digest 127 = .ok (.iload 4, 2) := by decide +kernel
theorem dX7_digest_129 : decode cX7_digest 129 = .ok (.invokevirtual 133, 3) := by decide +kernel
theorem dX7_digest_132 : decode cX7_digest 132 = .ok (.i2l, 1) := by decide +kernel
theorem dX7_digest_133 : decode cX7_digest 133 = .ok (.ladd, 1) := by decide +kernel
theorem dX7_digest_134 : decode cX7_digest 134 = .ok (.lstore_n 1, 1) := by decide +kernel
theorem dX7_digest_135 : decode cX7_digest 135 = .ok (.iinc 4 1, 3) := by decide +kernel
theorem dX7_digest_138 : decode cX7_digest 138 = .ok (.goto (-26), 3) := by decide +kernel
theorem dX7_digest_141 : decode cX7_digest 141 = .ok (.lload_n 1, 1) := by decide +kernel
theorem dX7_digest_142 : decode cX7_digest 142 = .ok (.lreturn, 1) := by decide +kernel
theorem dX7_countOf_0 : decode cX7_countOf 0 = .ok (.iload_n 1, 1) := by decide +kernel
theorem dX7_countOf_1 : decode cX7_countOf 1 = .ok (.tableswitch 145 0 9 #[55, 63, 71, 79, 87, 99, 111, 119, 128, 137], 55) := by decide +kernel
theorem dX7_countOf_56 : decode cX7_countOf 56 = .ok (.aload_n 0, 1) := by decide +kernel
theorem dX7_countOf_57 : decode cX7_countOf 57 = .ok (.getfield 40, 3) := by decide +kernel
theorem dX7_countOf_60 : decode cX7_countOf 60 = .ok (.getfield 147, 3) := by decide +kernel
theorem dX7_countOf_63 : decode cX7_countOf 63 = .ok (.ireturn, 1) := by decide +kernel
theorem dX7_countOf_64 : decode cX7_countOf 64 = .ok (.aload_n 0, 1) := by decide +kernel
theorem dX7_countOf_65 : decode cX7_countOf 65 = .ok (.getfield 40, 3) := by decide +kernel
theorem dX7_countOf_68 : decode cX7_countOf 68 = .ok (.getfield 175, 3) := by decide +kernel
theorem dX7_countOf_71 : decode cX7_countOf 71 = .ok (.ireturn, 1) := by decide +kernel
theorem dX7_countOf_72 : decode cX7_countOf 72 = .ok (.aload_n 0, 1) := by decide +kernel
theorem dX7_countOf_73 : decode cX7_countOf 73 = .ok (.getfield 40, 3) := by decide +kernel
theorem dX7_countOf_76 : decode cX7_countOf 76 = .ok (.invokevirtual 187, 3) := by decide +kernel
theorem dX7_countOf_79 : decode cX7_countOf 79 = .ok (.ireturn, 1) := by decide +kernel
theorem dX7_countOf_80 : decode cX7_countOf 80 = .ok (.aload_n 0, 1) := by decide +kernel
theorem dX7_countOf_81 : decode cX7_countOf 81 = .ok (.getfield 40, 3) := by decide +kernel
theorem dX7_countOf_84 : decode cX7_countOf 84 = .ok (.invokevirtual 127, 3) := by decide +kernel
theorem dX7_countOf_87 : decode cX7_countOf 87 = .ok (.ireturn, 1) := by decide +kernel
theorem dX7_countOf_88 : decode cX7_countOf 88 = .ok (.aload_n 0, 1) := by decide +kernel
theorem dX7_countOf_89 : decode cX7_countOf 89 = .ok (.getfield 40, 3) := by decide +kernel
theorem dX7_countOf_92 : decode cX7_countOf 92 = .ok (.getfield 171, 3) := by decide +kernel
theorem dX7_countOf_95 : decode cX7_countOf 95 = .ok (.iconst 0, 1) := by decide +kernel
theorem dX7_countOf_96 : decode cX7_countOf 96 = .ok (.invokevirtual 190, 3) := by decide +kernel
theorem dX7_countOf_99 : decode cX7_countOf 99 = .ok (.ireturn, 1) := by decide +kernel
theorem dX7_countOf_100 : decode cX7_countOf 100 = .ok (.aload_n 0, 1) := by decide +kernel
theorem dX7_countOf_101 : decode cX7_countOf 101 = .ok (.getfield 40, 3) := by decide +kernel
theorem dX7_countOf_104 : decode cX7_countOf 104 = .ok (.getfield 171, 3) := by decide +kernel
theorem dX7_countOf_107 : decode cX7_countOf 107 = .ok (.iconst 1, 1) := by decide +kernel
theorem dX7_countOf_108 : decode cX7_countOf 108 = .ok (.invokevirtual 190, 3) := by decide +kernel
theorem dX7_countOf_111 : decode cX7_countOf 111 = .ok (.ireturn, 1) := by decide +kernel
theorem dX7_countOf_112 : decode cX7_countOf 112 = .ok (.aload_n 0, 1) := by decide +kernel
theorem dX7_countOf_113 : decode cX7_countOf 113 = .ok (.getfield 40, 3) := by decide +kernel
theorem dX7_countOf_116 : decode cX7_countOf 116 = .ok (.getfield 193, 3) := by decide +kernel
theorem dX7_countOf_119 : decode cX7_countOf 119 = .ok (.ireturn, 1) := by decide +kernel
theorem dX7_countOf_120 : decode cX7_countOf 120 = .ok (.aload_n 0, 1) := by decide +kernel
theorem dX7_countOf_121 : decode cX7_countOf 121 = .ok (.getfield 40, 3) := by decide +kernel
theorem dX7_countOf_124 : decode cX7_countOf 124 = .ok (.iconst 0, 1) := by decide +kernel
theorem dX7_countOf_125 : decode cX7_countOf 125 = .ok (.invokevirtual 196, 3) := by decide +kernel
theorem dX7_countOf_128 : decode cX7_countOf 128 = .ok (.ireturn, 1) := by decide +kernel
theorem dX7_countOf_129 : decode cX7_countOf 129 = .ok (.aload_n 0, 1) := by decide +kernel
theorem dX7_countOf_130 : decode cX7_countOf 130 = .ok (.getfield 40, 3) := by decide +kernel
theorem dX7_countOf_133 : decode cX7_countOf 133 = .ok (.iconst 1, 1) := by decide +kernel
theorem dX7_countOf_134 : decode cX7_countOf 134 = .ok (.invokevirtual 196, 3) := by decide +kernel
theorem dX7_countOf_137 : decode cX7_countOf 137 = .ok (.ireturn, 1) := by decide +kernel
theorem dX7_countOf_138 : decode cX7_countOf 138 = .ok (.aload_n 0, 1) := by decide +kernel
theorem dX7_countOf_139 : decode cX7_countOf 139 = .ok (.getfield 40, 3) := by decide +kernel
theorem dX7_countOf_142 : decode cX7_countOf 142 = .ok (.invokevirtual 199, 3) := by decide +kernel
theorem dX7_countOf_145 : decode cX7_countOf 145 = .ok (.ireturn, 1) := by decide +kernel
theorem dX7_countOf_146 : decode cX7_countOf 146 = .ok (.aload_n 0, 1) := by decide +kernel
theorem dX7_countOf_147 : decode cX7_countOf 147 = .ok (.getfield 10, 3) := by decide +kernel
theorem dX7_countOf_150 : decode cX7_countOf 150 = .ok (.getfield 51, 3) := by decide +kernel
theorem dX7_countOf_153 : decode cX7_countOf 153 = .ok (.ireturn, 1) := by decide +kernel
theorem dX7_factOf_0 : decode cX7_factOf 0 = .ok (.iload_n 2, 1) := by decide +kernel
theorem dX7_factOf_1 : decode cX7_factOf 1 = .ok (.tableswitch 83 0 4 #[35, 47, 59, 64, 73], 35) := by decide +kernel
theorem dX7_factOf_36 : decode cX7_factOf 36 = .ok (.aload_n 0, 1) := by decide +kernel
theorem dX7_factOf_37 : decode cX7_factOf 37 = .ok (.getfield 40, 3) := by decide +kernel
theorem dX7_factOf_40 : decode cX7_factOf 40 = .ok (.iload_n 1, 1) := by decide +kernel
theorem dX7_factOf_41 : decode cX7_factOf 41 = .ok (.invokevirtual 202, 3) := by decide +kernel
theorem dX7_factOf_44 : decode cX7_factOf 44 = .ok (.invokestatic 205, 3) := by decide +kernel
theorem dX7_factOf_47 : decode cX7_factOf 47 = .ok (.ireturn, 1) := by decide +kernel
theorem dX7_factOf_48 : decode cX7_factOf 48 = .ok (.aload_n 0, 1) := by decide +kernel
theorem dX7_factOf_49 : decode cX7_factOf 49 = .ok (.getfield 40, 3) := by decide +kernel
theorem dX7_factOf_52 : decode cX7_factOf 52 = .ok (.iload_n 1, 1) := by decide +kernel
theorem dX7_factOf_53 : decode cX7_factOf 53 = .ok (.invokevirtual 202, 3) := by decide +kernel
theorem dX7_factOf_56 : decode cX7_factOf 56 = .ok (.invokestatic 208, 3) := by decide +kernel
theorem dX7_factOf_59 : decode cX7_factOf 59 = .ok (.ireturn, 1) := by decide +kernel
theorem dX7_factOf_60 : decode cX7_factOf 60 = .ok (.iload_n 1, 1) := by decide +kernel
theorem dX7_factOf_61 : decode cX7_factOf 61 = .ok (.invokestatic 211, 3) := by decide +kernel
theorem dX7_factOf_64 : decode cX7_factOf 64 = .ok (.ireturn, 1) := by decide +kernel
theorem dX7_factOf_65 : decode cX7_factOf 65 = .ok (.aload_n 0, 1) := by decide +kernel
theorem dX7_factOf_66 : decode cX7_factOf 66 = .ok (.getfield 40, 3) := by decide +kernel
theorem dX7_factOf_69 : decode cX7_factOf 69 = .ok (.iload_n 1, 1) := by decide +kernel
theorem dX7_factOf_70 : decode cX7_factOf 70 = .ok (.invokevirtual 214, 3) := by decide +kernel
theorem dX7_factOf_73 : decode cX7_factOf 73 = .ok (.ireturn, 1) := by decide +kernel
theorem dX7_factOf_74 : decode cX7_factOf 74 = .ok (.aload_n 0, 1) := by decide +kernel
theorem dX7_factOf_75 : decode cX7_factOf 75 = .ok (.getfield 40, 3) := by decide +kernel
theorem dX7_factOf_78 : decode cX7_factOf 78 = .ok (.iload_n 1, 1) := by decide +kernel
theorem dX7_factOf_79 : decode cX7_factOf 79 = .ok (.iconst 0, 1) := by decide +kernel
theorem dX7_factOf_80 : decode cX7_factOf 80 = .ok (.invokevirtual 217, 3) := by decide +kernel
theorem dX7_factOf_83 : decode cX7_factOf 83 = .ok (.ireturn, 1) := by decide +kernel
theorem dX7_factOf_84 : decode cX7_factOf 84 = .ok (.aload_n 0, 1) := by decide +kernel
theorem dX7_factOf_85 : decode cX7_factOf 85 = .ok (.getfield 40, 3) := by decide +kernel
theorem dX7_factOf_88 : decode cX7_factOf 88 = .ok (.iload_n 1, 1) := by decide +kernel
theorem dX7_factOf_89 : decode cX7_factOf 89 = .ok (.iconst 1, 1) := by decide +kernel
theorem dX7_factOf_90 : decode cX7_factOf 90 = .ok (.invokevirtual 217, 3) := by decide +kernel
theorem dX7_factOf_93 : decode cX7_factOf 93 = .ok (.ireturn, 1) := by decide +kernel
theorem dX7_placeOf_0 : decode cX7_placeOf 0 = .ok (.iload_n 0, 1) := by decide +kernel
theorem dX7_placeOf_1 : decode cX7_placeOf 1 = .ok (.ifCond .lt 19, 3) := by decide +kernel
theorem dX7_placeOf_4 : decode cX7_placeOf 4 = .ok (.iload_n 0, 1) := by decide +kernel
theorem dX7_placeOf_5 : decode cX7_placeOf 5 = .ok (.getstatic 220, 3) := by decide +kernel
theorem dX7_placeOf_8 : decode cX7_placeOf 8 = .ok (.arraylength, 1) := by decide +kernel
theorem dX7_placeOf_9 : decode cX7_placeOf 9 = .ok (.if_icmp .ge 11, 3) := by decide +kernel
theorem dX7_placeOf_12 : decode cX7_placeOf 12 = .ok (.getstatic 220, 3) := by decide +kernel
theorem dX7_placeOf_15 : decode cX7_placeOf 15 = .ok (.iload_n 0, 1) := by decide +kernel
theorem dX7_placeOf_16 : decode cX7_placeOf 16 = .ok (.iaload, 1) := by decide +kernel
theorem dX7_placeOf_17 : decode cX7_placeOf 17 = .ok (.goto 4, 3) := by decide +kernel
theorem dX7_placeOf_20 : decode cX7_placeOf 20 = .ok (.iconst (-1), 1) := by decide +kernel
theorem dX7_placeOf_21 : decode cX7_placeOf 21 = .ok (.ireturn, 1) := by decide +kernel
theorem dX7_cellOf_0 : decode cX7_cellOf 0 = .ok (.iload_n 0, 1) := by decide +kernel
theorem dX7_cellOf_1 : decode cX7_cellOf 1 = .ok (.ifCond .ge 5, 3) := by decide +kernel
theorem dX7_cellOf_4 : decode cX7_cellOf 4 = .ok (.iconst (-1), 1) := by decide +kernel
theorem dX7_cellOf_5 : decode cX7_cellOf 5 = .ok (.ireturn, 1) := by decide +kernel
theorem dX7_cellOf_6 : decode cX7_cellOf 6 = .ok (.iload_n 0, 1) := by decide +kernel
theorem dX7_cellOf_7 : decode cX7_cellOf 7 = .ok (.invokestatic 224, 3) := by decide +kernel
theorem dX7_cellOf_10 : decode cX7_cellOf 10 = .ok (.iconst 5, 1) := by decide +kernel
theorem dX7_cellOf_11 : decode cX7_cellOf 11 = .ok (.iadd, 1) := by decide +kernel
theorem dX7_cellOf_12 : decode cX7_cellOf 12 = .ok (.istore_n 1, 1) := by decide +kernel
theorem dX7_cellOf_13 : decode cX7_cellOf 13 = .ok (.iload_n 1, 1) := by decide +kernel
theorem dX7_cellOf_14 : decode cX7_cellOf 14 = .ok (.iload_n 0, 1) := by decide +kernel
theorem dX7_cellOf_15 : decode cX7_cellOf 15 = .ok (.invokestatic 227, 3) := by decide +kernel
theorem dX7_cellOf_18 : decode cX7_cellOf 18 = .ok (.iload_n 1, 1) := by decide +kernel
theorem dX7_cellOf_19 : decode cX7_cellOf 19 = .ok (.invokestatic 230, 3) := by decide +kernel
theorem dX7_cellOf_22 : decode cX7_cellOf 22 = .ok (.isub, 1) := by decide +kernel
theorem dX7_cellOf_23 : decode cX7_cellOf 23 = .ok (.iconst 1, 1) := by decide +kernel
theorem dX7_cellOf_24 : decode cX7_cellOf 24 = .ok (.iadd, 1) := by decide +kernel
theorem dX7_cellOf_25 : decode cX7_cellOf 25 = .ok (.invokestatic 104, 3) := by decide +kernel
theorem dX7_cellOf_28 : decode cX7_cellOf 28 = .ok (.ireturn, 1) := by decide +kernel
theorem dX7_lowest_0 : decode cX7_lowest 0 = .ok (.iload_n 0, 1) := by decide +kernel
theorem dX7_lowest_1 : decode cX7_lowest 1 = .ok (.iconst 5, 1) := by decide +kernel
theorem dX7_lowest_2 : decode cX7_lowest 2 = .ok (.if_icmp .ge 8, 3) := by decide +kernel
theorem dX7_lowest_5 : decode cX7_lowest 5 = .ok (.iload_n 0, 1) := by decide +kernel
theorem dX7_lowest_6 : decode cX7_lowest 6 = .ok (.ineg, 1) := by decide +kernel
theorem dX7_lowest_7 : decode cX7_lowest 7 = .ok (.goto 5, 3) := by decide +kernel
theorem dX7_lowest_10 : decode cX7_lowest 10 = .ok (.bipush (-5), 2) := by decide +kernel
theorem dX7_lowest_12 : decode cX7_lowest 12 = .ok (.ireturn, 1) := by decide +kernel
theorem dX7_columnSize_0 : decode cX7_columnSize 0 = .ok (.iload_n 0, 1) := by decide +kernel
theorem dX7_columnSize_1 : decode cX7_columnSize 1 = .ok (.iconst 5, 1) := by decide +kernel
theorem dX7_columnSize_2 : decode cX7_columnSize 2 = .ok (.if_icmp .ge 10, 3) := by decide +kernel
theorem dX7_columnSize_5 : decode cX7_columnSize 5 = .ok (.iload_n 0, 1) := by decide +kernel
theorem dX7_columnSize_6 : decode cX7_columnSize 6 = .ok (.bipush 6, 2) := by decide +kernel
theorem dX7_columnSize_8 : decode cX7_columnSize 8 = .ok (.iadd, 1) := by decide +kernel
theorem dX7_columnSize_9 : decode cX7_columnSize 9 = .ok (.goto 7, 3) := by decide +kernel
theorem dX7_columnSize_12 : decode cX7_columnSize 12 = .ok (.bipush 16, 2) := by decide +kernel
theorem dX7_columnSize_14 : decode cX7_columnSize 14 = .ok (.iload_n 0, 1) := by decide +kernel
theorem dX7_columnSize_15 : decode cX7_columnSize 15 = .ok (.isub, 1) := by decide +kernel
theorem dX7_columnSize_16 : decode cX7_columnSize 16 = .ok (.ireturn, 1) := by decide +kernel
theorem dX7_cellNamed_0 : decode cX7_cellNamed 0 = .ok (.iload_n 0, 1) := by decide +kernel
theorem dX7_cellNamed_1 : decode cX7_cellNamed 1 = .ok (.ifCond .lt 11, 3) := by decide +kernel
theorem dX7_cellNamed_4 : decode cX7_cellNamed 4 = .ok (.iload_n 0, 1) := by decide +kernel
theorem dX7_cellNamed_5 : decode cX7_cellNamed 5 = .ok (.getstatic 233, 3) := by decide +kernel
theorem dX7_cellNamed_8 : decode cX7_cellNamed 8 = .ok (.arraylength, 1) := by decide +kernel
theorem dX7_cellNamed_9 : decode cX7_cellNamed 9 = .ok (.if_icmp .lt 5, 3) := by decide +kernel
theorem dX7_cellNamed_12 : decode cX7_cellNamed 12 = .ok (.iconst (-1), 1) := by decide +kernel
theorem dX7_cellNamed_13 : decode cX7_cellNamed 13 = .ok (.ireturn, 1) := by decide +kernel
theorem dX7_cellNamed_14 : decode cX7_cellNamed 14 = .ok (.iload_n 1, 1) := by decide +kernel
theorem dX7_cellNamed_15 : decode cX7_cellNamed 15 = .ok (.iconst 1, 1) := by decide +kernel
theorem dX7_cellNamed_16 : decode cX7_cellNamed 16 = .ok (.if_icmp .lt 11, 3) := by decide +kernel
theorem dX7_cellNamed_19 : decode cX7_cellNamed 19 = .ok (.iload_n 1, 1) := by decide +kernel
theorem dX7_cellNamed_20 : decode cX7_cellNamed 20 = .ok (.iload_n 0, 1) := by decide +kernel
theorem dX7_cellNamed_21 : decode cX7_cellNamed 21 = .ok (.invokestatic 236, 3) := by decide +kernel
theorem dX7_cellNamed_24 : decode cX7_cellNamed 24 = .ok (.if_icmp .le 7, 3) := by decide +kernel
theorem dX7_cellNamed_27 : decode cX7_cellNamed 27 = .ok (.iconst (-1), 1) := by decide +kernel
theorem dX7_cellNamed_28 : decode cX7_cellNamed 28 = .ok (.goto 12, 3) := by decide +kernel
theorem dX7_cellNamed_31 : decode cX7_cellNamed 31 = .ok (.getstatic 233, 3) := by decide +kernel
theorem dX7_cellNamed_34 : decode cX7_cellNamed 34 = .ok (.iload_n 0, 1) := by decide +kernel
theorem dX7_cellNamed_35 : decode cX7_cellNamed 35 = .ok (.iaload, 1) := by decide +kernel
theorem dX7_cellNamed_36 : decode cX7_cellNamed 36 = .ok (.iload_n 1, 1) := by decide +kernel
theorem dX7_cellNamed_37 : decode cX7_cellNamed 37 = .ok (.iadd, 1) := by decide +kernel
theorem dX7_cellNamed_38 : decode cX7_cellNamed 38 = .ok (.iconst 1, 1) := by decide +kernel
theorem dX7_cellNamed_39 : decode cX7_cellNamed 39 = .ok (.isub, 1) := by decide +kernel
theorem dX7_cellNamed_40 : decode cX7_cellNamed 40 = .ok (.ireturn, 1) := by decide +kernel
theorem dX7_nameOf_0 : decode cX7_nameOf 0 = .ok (.iload_n 0, 1) := by decide +kernel
theorem dX7_nameOf_1 : decode cX7_nameOf 1 = .ok (.invokestatic 116, 3) := by decide +kernel
theorem dX7_nameOf_4 : decode cX7_nameOf 4 = .ok (.istore_n 1, 1) := by decide +kernel
theorem dX7_nameOf_5 : decode cX7_nameOf 5 = .ok (.iload_n 1, 1) := by decide +kernel
theorem dX7_nameOf_6 : decode cX7_nameOf 6 = .ok (.invokestatic 224, 3) := by decide +kernel
theorem dX7_nameOf_9 : decode cX7_nameOf 9 = .ok (.iconst 5, 1) := by decide +kernel
theorem dX7_nameOf_10 : decode cX7_nameOf 10 = .ok (.iadd, 1) := by decide +kernel
theorem dX7_nameOf_11 : decode cX7_nameOf 11 = .ok (.istore_n 2, 1) := by decide +kernel
theorem dX7_nameOf_12 : decode cX7_nameOf 12 = .ok (.bipush 100, 2) := by decide +kernel
theorem dX7_nameOf_14 : decode cX7_nameOf 14 = .ok (.iload_n 2, 1) := by decide +kernel
theorem dX7_nameOf_15 : decode cX7_nameOf 15 = .ok (.imul, 1) := by decide +kernel
theorem dX7_nameOf_16 : decode cX7_nameOf 16 = .ok (.iload_n 1, 1) := by decide +kernel
theorem dX7_nameOf_17 : decode cX7_nameOf 17 = .ok (.invokestatic 227, 3) := by decide +kernel
theorem dX7_nameOf_20 : decode cX7_nameOf 20 = .ok (.iadd, 1) := by decide +kernel
theorem dX7_nameOf_21 : decode cX7_nameOf 21 = .ok (.iload_n 2, 1) := by decide +kernel
theorem dX7_nameOf_22 : decode cX7_nameOf 22 = .ok (.invokestatic 230, 3) := by decide +kernel
theorem dX7_nameOf_25 : decode cX7_nameOf 25 = .ok (.isub, 1) := by decide +kernel
theorem dX7_nameOf_26 : decode cX7_nameOf 26 = .ok (.iconst 1, 1) := by decide +kernel
theorem dX7_nameOf_27 : decode cX7_nameOf 27 = .ok (.iadd, 1) := by decide +kernel
theorem dX7_nameOf_28 : decode cX7_nameOf 28 = .ok (.ireturn, 1) := by decide +kernel
theorem dX7_colourOf_0 : decode cX7_colourOf 0 = .ok (.iload_n 0, 1) := by decide +kernel
theorem dX7_colourOf_1 : decode cX7_colourOf 1 = .ok (.invokestatic 116, 3) := by decide +kernel
theorem dX7_colourOf_4 : decode cX7_colourOf 4 = .ok (.istore_n 1, 1) := by decide +kernel
theorem dX7_colourOf_5 : decode cX7_colourOf 5 = .ok (.iload_n 1, 1) := by decide +kernel
theorem dX7_colourOf_6 : decode cX7_colourOf 6 = .ok (.invokestatic 224, 3) := by decide +kernel
theorem dX7_colourOf_9 : decode cX7_colourOf 9 = .ok (.iload_n 1, 1) := by decide +kernel
theorem dX7_colourOf_10 : decode cX7_colourOf 10 = .ok (.invokestatic 227, 3) := by decide +kernel
theorem dX7_colourOf_13 : decode cX7_colourOf 13 = .ok (.isub, 1) := by decide +kernel
theorem dX7_colourOf_14 : decode cX7_colourOf 14 = .ok (.bipush 30, 2) := by decide +kernel
theorem dX7_colourOf_16 : decode cX7_colourOf 16 = .ok (.iadd, 1) := by decide +kernel
theorem dX7_colourOf_17 : decode cX7_colourOf 17 = .ok (.iconst 3, 1) := by decide +kernel
theorem dX7_colourOf_18 : decode cX7_colourOf 18 = .ok (.irem, 1) := by decide +kernel
theorem dX7_colourOf_19 : decode cX7_colourOf 19 = .ok (.ireturn, 1) := by decide +kernel
theorem dX7_isCell_0 : decode cX7_isCell 0 = .ok (.iload_n 0, 1) := by decide +kernel
theorem dX7_isCell_1 : decode cX7_isCell 1 = .ok (.ifCond .lt 13, 3) := by decide +kernel
theorem dX7_isCell_4 : decode cX7_isCell 4 = .ok (.iload_n 0, 1) := by decide +kernel
theorem dX7_isCell_5 : decode cX7_isCell 5 = .ok (.bipush 91, 2) := by decide +kernel
theorem dX7_isCell_7 : decode cX7_isCell 7 = .ok (.if_icmp .ge 7, 3) := by decide +kernel
theorem dX7_isCell_10 : decode cX7_isCell 10 = .ok (.iconst 1, 1) := by decide +kernel
theorem dX7_isCell_11 : decode cX7_isCell 11 = .ok (.goto 4, 3) := by decide +kernel
theorem dX7_isCell_14 : decode cX7_isCell 14 = .ok (.iconst 0, 1) := by decide +kernel
theorem dX7_isCell_15 : decode cX7_isCell 15 = .ok (.ireturn, 1) := by decide +kernel
theorem dX7_valueOf_0 : decode cX7_valueOf 0 = .ok (.iload_n 0, 1) := by decide +kernel
theorem dX7_valueOf_1 : decode cX7_valueOf 1 = .ok (.iconst 1, 1) := by decide +kernel
theorem dX7_valueOf_2 : decode cX7_valueOf 2 = .ok (.if_icmp .ne 10, 3) := by decide +kernel
theorem dX7_valueOf_5 : decode cX7_valueOf 5 = .ok (.iload_n 1, 1) := by decide +kernel
theorem dX7_valueOf_6 : decode cX7_valueOf 6 = .ok (.bipush 8, 2) := by decide +kernel
theorem dX7_valueOf_8 : decode cX7_valueOf 8 = .ok (.iadd, 1) := by decide +kernel
theorem dX7_valueOf_9 : decode cX7_valueOf 9 = .ok (.goto 4, 3) := by decide +kernel
theorem dX7_valueOf_12 : decode cX7_valueOf 12 = .ok (.iload_n 1, 1) := by decide +kernel
theorem dX7_valueOf_13 : decode cX7_valueOf 13 = .ok (.ireturn, 1) := by decide +kernel
theorem dX7_kindOf_0 : decode cX7_kindOf 0 = .ok (.iload_n 0, 1) := by decide +kernel
theorem dX7_kindOf_1 : decode cX7_kindOf 1 = .ok (.ifCond .gt 7, 3) := by decide +kernel
theorem dX7_kindOf_4 : decode cX7_kindOf 4 = .ok (.iconst 0, 1) := by decide +kernel
theorem dX7_kindOf_5 : decode cX7_kindOf 5 = .ok (.goto 7, 3) := by decide +kernel
theorem dX7_kindOf_8 : decode cX7_kindOf 8 = .ok (.iload_n 0, 1) := by decide +kernel
theorem dX7_kindOf_9 : decode cX7_kindOf 9 = .ok (.bipush 7, 2) := by decide +kernel
theorem dX7_kindOf_11 : decode cX7_kindOf 11 = .ok (.iand, 1) := by decide +kernel
theorem dX7_kindOf_12 : decode cX7_kindOf 12 = .ok (.ireturn, 1) := by decide +kernel
theorem dX7_sideOf_0 : decode cX7_sideOf 0 = .ok (.iload_n 0, 1) := by decide +kernel
theorem dX7_sideOf_1 : decode cX7_sideOf 1 = .ok (.ifCond .gt 5, 3) := by decide +kernel
theorem dX7_sideOf_4 : decode cX7_sideOf 4 = .ok (.iconst (-1), 1) := by decide +kernel
theorem dX7_sideOf_5 : decode cX7_sideOf 5 = .ok (.ireturn, 1) := by decide +kernel
theorem dX7_sideOf_6 : decode cX7_sideOf 6 = .ok (.iload_n 0, 1) := by decide +kernel
theorem dX7_sideOf_7 : decode cX7_sideOf 7 = .ok (.bipush 8, 2) := by decide +kernel
theorem dX7_sideOf_9 : decode cX7_sideOf 9 = .ok (.if_icmp .ge 7, 3) := by decide +kernel
theorem dX7_sideOf_12 : decode cX7_sideOf 12 = .ok (.iconst 0, 1) := by decide +kernel
theorem dX7_sideOf_13 : decode cX7_sideOf 13 = .ok (.goto 4, 3) := by decide +kernel
theorem dX7_sideOf_16 : decode cX7_sideOf 16 = .ok (.iconst 1, 1) := by decide +kernel
theorem dX7_sideOf_17 : decode cX7_sideOf 17 = .ok (.ireturn, 1) := by decide +kernel
theorem dX7_worthOfKind_0 : decode cX7_worthOfKind 0 = .ok (.iload_n 0, 1) := by decide +kernel
theorem dX7_worthOfKind_1 : decode cX7_worthOfKind 1 = .ok (.ifCond .lt 19, 3) := by decide +kernel
theorem dX7_worthOfKind_4 : decode cX7_worthOfKind 4 = .ok (.iload_n 0, 1) := by decide +kernel
theorem dX7_worthOfKind_5 : decode cX7_worthOfKind 5 = .ok (.getstatic 239, 3) := by decide +kernel
theorem dX7_worthOfKind_8 : decode cX7_worthOfKind 8 = .ok (.arraylength, 1) := by decide +kernel
theorem dX7_worthOfKind_9 : decode cX7_worthOfKind 9 = .ok (.if_icmp .ge 11, 3) := by decide +kernel
theorem dX7_worthOfKind_12 : decode cX7_worthOfKind 12 = .ok (.getstatic 239, 3) := by decide +kernel
theorem dX7_worthOfKind_15 : decode cX7_worthOfKind 15 = .ok (.iload_n 0, 1) := by decide +kernel
theorem dX7_worthOfKind_16 : decode cX7_worthOfKind 16 = .ok (.iaload, 1) := by decide +kernel
theorem dX7_worthOfKind_17 : decode cX7_worthOfKind 17 = .ok (.goto 4, 3) := by decide +kernel
theorem dX7_worthOfKind_20 : decode cX7_worthOfKind 20 = .ok (.iconst 0, 1) := by decide +kernel
theorem dX7_worthOfKind_21 : decode cX7_worthOfKind 21 = .ok (.ireturn, 1) := by decide +kernel
theorem dX7_forward_0 : decode cX7_forward 0 = .ok (.iload_n 0, 1) := by decide +kernel
theorem dX7_forward_1 : decode cX7_forward 1 = .ok (.ifCond .ne 7, 3) := by decide +kernel
theorem dX7_forward_4 : decode cX7_forward 4 = .ok (.iconst 1, 1) := by decide +kernel
theorem dX7_forward_5 : decode cX7_forward 5 = .ok (.goto 4, 3) := by decide +kernel
theorem dX7_forward_8 : decode cX7_forward 8 = .ok (.iconst (-1), 1) := by decide +kernel
theorem dX7_forward_9 : decode cX7_forward 9 = .ok (.ireturn, 1) := by decide +kernel
theorem dX7_xOf_0 : decode cX7_xOf 0 = .ok (.iload_n 0, 1) := by decide +kernel
theorem dX7_xOf_1 : decode cX7_xOf 1 = .ok (.bipush 17, 2) := by decide +kernel
theorem dX7_xOf_3 : decode cX7_xOf 3 = .ok (.idiv, 1) := by decide +kernel
theorem dX7_xOf_4 : decode cX7_xOf 4 = .ok (.bipush 8, 2) := by decide +kernel
theorem dX7_xOf_6 : decode cX7_xOf 6 = .ok (.isub, 1) := by decide +kernel
theorem dX7_xOf_7 : decode cX7_xOf 7 = .ok (.ireturn, 1) := by decide +kernel
theorem dX7_yOf_0 : decode cX7_yOf 0 = .ok (.iload_n 0, 1) := by decide +kernel
theorem dX7_yOf_1 : decode cX7_yOf 1 = .ok (.bipush 17, 2) := by decide +kernel
theorem dX7_yOf_3 : decode cX7_yOf 3 = .ok (.irem, 1) := by decide +kernel
theorem dX7_yOf_4 : decode cX7_yOf 4 = .ok (.bipush 8, 2) := by decide +kernel
theorem dX7_yOf_6 : decode cX7_yOf 6 = .ok (.isub, 1) := by decide +kernel
theorem dX7_yOf_7 : decode cX7_yOf 7 = .ok (.ireturn, 1) := by decide +kernel
theorem dX7_isFirstPlace_0 : decode cX7_isFirstPlace 0 = .ok (.iload_n 1, 1) := by decide +kernel
theorem dX7_isFirstPlace_1 : decode cX7_isFirstPlace 1 = .ok (.ifCond .ne 7, 3) := by decide +kernel
theorem dX7_isFirstPlace_4 : decode cX7_isFirstPlace 4 = .ok (.iconst 1, 1) := by decide +kernel
theorem dX7_isFirstPlace_5 : decode cX7_isFirstPlace 5 = .ok (.goto 4, 3) := by decide +kernel
theorem dX7_isFirstPlace_8 : decode cX7_isFirstPlace 8 = .ok (.iconst (-1), 1) := by decide +kernel
theorem dX7_isFirstPlace_9 : decode cX7_isFirstPlace 9 = .ok (.istore_n 2, 1) := by decide +kernel
theorem dX7_isFirstPlace_10 : decode cX7_isFirstPlace 10 = .ok (.iload_n 0, 1) := by decide +kernel
theorem dX7_isFirstPlace_11 : decode cX7_isFirstPlace 11 = .ok (.bipush 17, 2) := by decide +kernel
theorem dX7_isFirstPlace_13 : decode cX7_isFirstPlace 13 = .ok (.idiv, 1) := by decide +kernel
theorem dX7_isFirstPlace_14 : decode cX7_isFirstPlace 14 = .ok (.bipush 8, 2) := by decide +kernel
theorem dX7_isFirstPlace_16 : decode cX7_isFirstPlace 16 = .ok (.isub, 1) := by decide +kernel
theorem dX7_isFirstPlace_17 : decode cX7_isFirstPlace 17 = .ok (.iload_n 2, 1) := by decide +kernel
theorem dX7_isFirstPlace_18 : decode cX7_isFirstPlace 18 = .ok (.imul, 1) := by decide +kernel
theorem dX7_isFirstPlace_19 : decode cX7_isFirstPlace 19 = .ok (.istore_n 3, 1) := by decide +kernel
theorem dX7_isFirstPlace_20 : decode cX7_isFirstPlace 20 = .ok (.iload_n 0, 1) := by decide +kernel
theorem dX7_isFirstPlace_21 : decode cX7_isFirstPlace 21 = .ok (.bipush 17, 2) := by decide +kernel
theorem dX7_isFirstPlace_23 : decode cX7_isFirstPlace 23 = .ok (.irem, 1) := by decide +kernel
theorem dX7_isFirstPlace_24 : decode cX7_isFirstPlace 24 = .ok (.bipush 8, 2) := by decide +kernel
theorem dX7_isFirstPlace_26 : decode cX7_isFirstPlace 26 = .ok (.isub, 1) := by decide +kernel
theorem dX7_isFirstPlace_27 : decode cX7_isFirstPlace 27 = .ok (.iload_n 2, 1) := by decide +kernel
theorem dX7_isFirstPlace_28 : decode cX7_isFirstPlace 28 = .ok (.imul, 1) := by decide +kernel
theorem dX7_isFirstPlace_29 : decode cX7_isFirstPlace 29 = .ok (.istore 4, 2) := by decide +kernel
theorem dX7_isFirstPlace_31 : decode cX7_isFirstPlace 31 = .ok (.iload_n 3, 1) := by decide +kernel
theorem dX7_isFirstPlace_32 : decode cX7_isFirstPlace 32 = .ok (.bipush (-4), 2) := by decide +kernel
theorem dX7_isFirstPlace_34 : decode cX7_isFirstPlace 34 = .ok (.if_icmp .lt 28, 3) := by decide +kernel
theorem dX7_isFirstPlace_37 : decode cX7_isFirstPlace 37 = .ok (.iload_n 3, 1) := by decide +kernel
theorem dX7_isFirstPlace_38 : decode cX7_isFirstPlace 38 = .ok (.iconst 4, 1) := by decide +kernel
theorem dX7_isFirstPlace_39 : decode cX7_isFirstPlace 39 = .ok (.if_icmp .gt 23, 3) := by decide +kernel
theorem dX7_isFirstPlace_42 : decode cX7_isFirstPlace 42 = .ok (.iload 4, 2) := by decide +kernel
theorem dX7_isFirstPlace_44 : decode cX7_isFirstPlace 44 = .ok (.iload_n 3, 1) := by decide +kernel
theorem dX7_isFirstPlace_45 : decode cX7_isFirstPlace 45 = .ok (.ifCond .le 9, 3) := by decide +kernel
theorem dX7_isFirstPlace_48 : decode cX7_isFirstPlace 48 = .ok (.iconst (-1), 1) := by decide +kernel
theorem dX7_isFirstPlace_49 : decode cX7_isFirstPlace 49 = .ok (.iload_n 3, 1) := by decide +kernel
theorem dX7_isFirstPlace_50 : decode cX7_isFirstPlace 50 = .ok (.isub, 1) := by decide +kernel
theorem dX7_isFirstPlace_51 : decode cX7_isFirstPlace 51 = .ok (.goto 4, 3) := by decide +kernel
theorem dX7_isFirstPlace_54 : decode cX7_isFirstPlace 54 = .ok (.iconst (-1), 1) := by decide +kernel
theorem dX7_isFirstPlace_55 : decode cX7_isFirstPlace 55 = .ok (.if_icmp .ne 7, 3) := by decide +kernel
theorem dX7_isFirstPlace_58 : decode cX7_isFirstPlace 58 = .ok (.iconst 1, 1) := by decide +kernel
theorem dX7_isFirstPlace_59 : decode cX7_isFirstPlace 59 = .ok (.goto 4, 3) := by decide +kernel
theorem dX7_isFirstPlace_62 : decode cX7_isFirstPlace 62 = .ok (.iconst 0, 1) := by decide +kernel
theorem dX7_isFirstPlace_63 : decode cX7_isFirstPlace 63 = .ok (.ireturn, 1) := by decide +kernel
theorem dX7_stepsOf_0 : decode cX7_stepsOf 0 = .ok (.iload_n 0, 1) := by decide +kernel
theorem dX7_stepsOf_1 : decode cX7_stepsOf 1 = .ok (.iconst 5, 1) := by decide +kernel
theorem dX7_stepsOf_2 : decode cX7_stepsOf 2 = .ok (.if_icmp .ne 9, 3) := by decide +kernel
theorem dX7_stepsOf_5 : decode cX7_stepsOf 5 = .ok (.getstatic 242, 3) := by decide +kernel
theorem dX7_stepsOf_8 : decode cX7_stepsOf 8 = .ok (.goto 6, 3) := by decide +kernel
theorem dX7_stepsOf_11 : decode cX7_stepsOf 11 = .ok (.getstatic 245, 3) := by decide +kernel
theorem dX7_stepsOf_14 : decode cX7_stepsOf 14 = .ok (.areturn, 1) := by decide +kernel
theorem dX7_firstStepOf_0 : decode cX7_firstStepOf 0 = .ok (.iload_n 0, 1) := by decide +kernel
theorem dX7_firstStepOf_1 : decode cX7_firstStepOf 1 = .ok (.iconst 4, 1) := by decide +kernel
theorem dX7_firstStepOf_2 : decode cX7_firstStepOf 2 = .ok (.if_icmp .ne 8, 3) := by decide +kernel
theorem dX7_firstStepOf_5 : decode cX7_firstStepOf 5 = .ok (.bipush 6, 2) := by decide +kernel
theorem dX7_firstStepOf_7 : decode cX7_firstStepOf 7 = .ok (.goto 4, 3) := by decide +kernel
theorem dX7_firstStepOf_10 : decode cX7_firstStepOf 10 = .ok (.iconst 0, 1) := by decide +kernel
theorem dX7_firstStepOf_11 : decode cX7_firstStepOf 11 = .ok (.ireturn, 1) := by decide +kernel
theorem dX7_lastStepOf_0 : decode cX7_lastStepOf 0 = .ok (.iload_n 0, 1) := by decide +kernel
theorem dX7_lastStepOf_1 : decode cX7_lastStepOf 1 = .ok (.iconst 3, 1) := by decide +kernel
theorem dX7_lastStepOf_2 : decode cX7_lastStepOf 2 = .ok (.if_icmp .ne 8, 3) := by decide +kernel
theorem dX7_lastStepOf_5 : decode cX7_lastStepOf 5 = .ok (.bipush 6, 2) := by decide +kernel
theorem dX7_lastStepOf_7 : decode cX7_lastStepOf 7 = .ok (.goto 7, 3) := by decide +kernel
theorem dX7_lastStepOf_10 : decode cX7_lastStepOf 10 = .ok (.getstatic 245, 3) := by decide +kernel
theorem dX7_lastStepOf_13 : decode cX7_lastStepOf 13 = .ok (.arraylength, 1) := by decide +kernel
theorem dX7_lastStepOf_14 : decode cX7_lastStepOf 14 = .ok (.ireturn, 1) := by decide +kernel
theorem dX7_goesBy_0 : decode cX7_goesBy 0 = .ok (.iload_n 0, 1) := by decide +kernel
theorem dX7_goesBy_1 : decode cX7_goesBy 1 = .ok (.iconst 2, 1) := by decide +kernel
theorem dX7_goesBy_2 : decode cX7_goesBy 2 = .ok (.if_icmp .eq 27, 3) := by decide +kernel
theorem dX7_goesBy_5 : decode cX7_goesBy 5 = .ok (.iload_n 0, 1) := by decide +kernel
theorem dX7_goesBy_6 : decode cX7_goesBy 6 = .ok (.iload_n 1, 1) := by decide +kernel
theorem dX7_goesBy_7 : decode cX7_goesBy 7 = .ok (.bipush 6, 2) := by decide +kernel
theorem dX7_goesBy_9 : decode cX7_goesBy 9 = .ok (.if_icmp .ge 7, 3) := by decide +kernel
theorem dX7_goesBy_12 : decode cX7_goesBy 12 = .ok (.iconst 3, 1) := by decide +kernel
theorem dX7_goesBy_13 : decode cX7_goesBy 13 = .ok (.goto 4, 3) := by decide +kernel
theorem dX7_goesBy_16 : decode cX7_goesBy 16 = .ok (.iconst 4, 1) := by decide +kernel
theorem dX7_goesBy_17 : decode cX7_goesBy 17 = .ok (.if_icmp .eq 12, 3) := by decide +kernel
theorem dX7_goesBy_20 : decode cX7_goesBy 20 = .ok (.iload_n 0, 1) := by decide +kernel
theorem dX7_goesBy_21 : decode cX7_goesBy 21 = .ok (.iconst 1, 1) := by decide +kernel
theorem dX7_goesBy_22 : decode cX7_goesBy 22 = .ok (.if_icmp .ne 11, 3) := by decide +kernel
theorem dX7_goesBy_25 : decode cX7_goesBy 25 = .ok (.iload_n 2, 1) := by decide +kernel
theorem dX7_goesBy_26 : decode cX7_goesBy 26 = .ok (.ifCond .eq 7, 3) := by decide +kernel
theorem dX7_goesBy_29 : decode cX7_goesBy 29 = .ok (.iconst 1, 1) := by decide +kernel
theorem dX7_goesBy_30 : decode cX7_goesBy 30 = .ok (.goto 4, 3) := by decide +kernel
theorem dX7_goesBy_33 : decode cX7_goesBy 33 = .ok (.iconst 0, 1) := by decide +kernel
theorem dX7_goesBy_34 : decode cX7_goesBy 34 = .ok (.ireturn, 1) := by decide +kernel
theorem dX7_reachOf_0 : decode cX7_reachOf 0 = .ok (.iload_n 0, 1) := by decide +kernel
theorem dX7_reachOf_1 : decode cX7_reachOf 1 = .ok (.iconst 1, 1) := by decide +kernel
theorem dX7_reachOf_2 : decode cX7_reachOf 2 = .ok (.if_icmp .eq 8, 3) := by decide +kernel
theorem dX7_reachOf_5 : decode cX7_reachOf 5 = .ok (.iload_n 0, 1) := by decide +kernel
theorem dX7_reachOf_6 : decode cX7_reachOf 6 = .ok (.iconst 5, 1) := by decide +kernel
theorem dX7_reachOf_7 : decode cX7_reachOf 7 = .ok (.if_icmp .ne 7, 3) := by decide +kernel
theorem dX7_reachOf_10 : decode cX7_reachOf 10 = .ok (.iconst 1, 1) := by decide +kernel
theorem dX7_reachOf_11 : decode cX7_reachOf 11 = .ok (.goto 5, 3) := by decide +kernel
theorem dX7_reachOf_14 : decode cX7_reachOf 14 = .ok (.bipush 17, 2) := by decide +kernel
theorem dX7_reachOf_16 : decode cX7_reachOf 16 = .ok (.ireturn, 1) := by decide +kernel
theorem dX8_init_0 : decode cX8_init 0 = .ok (.aload_n 0, 1) := by decide +kernel
theorem dX8_init_1 : decode cX8_init 1 = .ok (.invokespecial 1, 3) := by decide +kernel
theorem dX8_init_4 : decode cX8_init 4 = .ok (.aload_n 0, 1) := by decide +kernel
theorem dX8_init_5 : decode cX8_init 5 = .ok (.sipush 2000, 3) := by decide +kernel
theorem dX8_init_8 : decode cX8_init 8 = .ok (.newarray .int, 2) := by decide +kernel
theorem dX8_init_10 : decode cX8_init 10 = .ok (.putfield 9, 3) := by decide +kernel
theorem dX8_init_13 : decode cX8_init 13 = .ok (.aload_n 0, 1) := by decide +kernel
theorem dX8_init_14 : decode cX8_init 14 = .ok (.iconst (-1), 1) := by decide +kernel
theorem dX8_init_15 : decode cX8_init 15 = .ok (.putfield 13, 3) := by decide +kernel
theorem dX8_init_18 : decode cX8_init 18 = .ok (.aload_n 0, 1) := by decide +kernel
theorem dX8_init_19 : decode cX8_init 19 = .ok (.bipush 91, 2) := by decide +kernel
theorem dX8_init_21 : decode cX8_init 21 = .ok (.newarray .int, 2) := by decide +kernel
theorem dX8_init_23 : decode cX8_init 23 = .ok (.putfield 17, 3) := by decide +kernel
theorem dX8_init_26 : decode cX8_init 26 = .ok (.aload_n 0, 1) := by decide +kernel
theorem dX8_init_27 : decode cX8_init 27 = .ok (.bipush 91, 2) := by decide +kernel
theorem dX8_init_29 : decode cX8_init 29 = .ok (.newarray .int, 2) := by decide +kernel
theorem dX8_init_31 : decode cX8_init 31 = .ok (.putfield 20, 3) := by decide +kernel
theorem dX8_init_34 : decode cX8_init 34 = .ok (.aload_n 0, 1) := by decide +kernel
theorem dX8_init_35 : decode cX8_init 35 = .ok (.bipush 12, 2) := by decide +kernel
theorem dX8_init_37 : decode cX8_init 37 = .ok (.newarray .int, 2) := by decide +kernel
theorem dX8_init_39 : decode cX8_init 39 = .ok (.putfield 23, 3) := by decide +kernel
theorem dX8_init_42 : decode cX8_init 42 = .ok (.aload_n 0, 1) := by decide +kernel
theorem dX8_init_43 : decode cX8_init 43 = .ok (.sipush 1092, 3) := by decide +kernel
theorem dX8_init_46 : decode cX8_init 46 = .ok (.newarray .int, 2) := by decide +kernel
theorem dX8_init_48 : decode cX8_init 48 = .ok (.putfield 26, 3) := by decide +kernel
theorem dX8_init_51 : decode cX8_init 51 = .ok (.aload_n 0, 1) := by decide +kernel
theorem dX8_init_52 : decode cX8_init 52 = .ok (.sipush 1092, 3) := by decide +kernel
theorem dX8_init_55 : decode cX8_init 55 = .ok (.newarray .int, 2) := by decide +kernel
theorem dX8_init_57 : decode cX8_init 57 = .ok (.putfield 29, 3) := by decide +kernel
theorem dX8_init_60 : decode cX8_init 60 = .ok (.aload_n 0, 1) := by decide +kernel
theorem dX8_init_61 : decode cX8_init 61 = .ok (.bipush 91, 2) := by decide +kernel
theorem dX8_init_63 : decode cX8_init 63 = .ok (.newarray .int, 2) := by decide +kernel
theorem dX8_init_65 : decode cX8_init 65 = .ok (.putfield 32, 3) := by decide +kernel
theorem dX8_init_68 : decode cX8_init 68 = .ok (.aload_n 0, 1) := by decide +kernel
theorem dX8_init_69 : decode cX8_init 69 = .ok (.iconst (-1), 1) := by decide +kernel
theorem dX8_init_70 : decode cX8_init 70 = .ok (.putfield 35, 3) := by decide +kernel
theorem dX8_init_73 : decode cX8_init 73 = .ok (.aload_n 0, 1) := by decide +kernel
theorem dX8_init_74 : decode cX8_init 74 = .ok (.sipush 448, 3) := by decide +kernel
theorem dX8_init_77 : decode cX8_init 77 = .ok (.newarray .int, 2) := by decide +kernel
theorem dX8_init_79 : decode cX8_init 79 = .ok (.putfield 38, 3) := by decide +kernel
theorem dX8_init_82 : decode cX8_init 82 = .ok (.aload_n 0, 1) := by decide +kernel
theorem dX8_init_83 : decode cX8_init 83 = .ok (.bipush 91, 2) := by decide +kernel
theorem dX8_init_85 : decode cX8_init 85 = .ok (.newarray .boolean, 2) := by decide +kernel
theorem dX8_init_87 : decode cX8_init 87 = .ok (.putfield 41, 3) := by decide +kernel
theorem dX8_init_90 : decode cX8_init 90 = .ok (.aload_n 0, 1) := by decide +kernel
theorem dX8_init_91 : decode cX8_init 91 = .ok (.sipush 2000, 3) := by decide +kernel
theorem dX8_init_94 : decode cX8_init 94 = .ok (.newarray .int, 2) := by decide +kernel
theorem dX8_init_96 : decode cX8_init 96 = .ok (.putfield 45, 3) := by decide +kernel
theorem dX8_init_99 : decode cX8_init 99 = .ok (.aload_n 0, 1) := by decide +kernel
theorem dX8_init_100 : decode cX8_init 100 = .ok (.sipush 2000, 3) := by decide +kernel
theorem dX8_init_103 : decode cX8_init 103 = .ok (.newarray .int, 2) := by decide +kernel
theorem dX8_init_105 : decode cX8_init 105 = .ok (.putfield 48, 3) := by decide +kernel
theorem dX8_init_108 : decode cX8_init 108 = .ok (.aload_n 0, 1) := by decide +kernel
theorem dX8_init_109 : decode cX8_init 109 = .ok (.bipush 91, 2) := by decide +kernel
theorem dX8_init_111 : decode cX8_init 111 = .ok (.newarray .int, 2) := by decide +kernel
theorem dX8_init_113 : decode cX8_init 113 = .ok (.putfield 51, 3) := by decide +kernel
theorem dX8_init_116 : decode cX8_init 116 = .ok (.aload_n 0, 1) := by decide +kernel
theorem dX8_init_117 : decode cX8_init 117 = .ok (.bipush 91, 2) := by decide +kernel
theorem dX8_init_119 : decode cX8_init 119 = .ok (.newarray .int, 2) := by decide +kernel
theorem dX8_init_121 : decode cX8_init 121 = .ok (.putfield 54, 3) := by decide +kernel
theorem dX8_init_124 : decode cX8_init 124 = .ok (.aload_n 0, 1) := by decide +kernel
theorem dX8_init_125 : decode cX8_init 125 = .ok (.sipush 401, 3) := by decide +kernel
theorem dX8_init_128 : decode cX8_init 128 = .ok (.newarray .int, 2) := by decide +kernel
theorem dX8_init_130 : decode cX8_init 130 = .ok (.putfield 57, 3) := by decide +kernel
theorem dX8_init_133 : decode cX8_init 133 = .ok (.aload_n 0, 1) := by decide +kernel
theorem dX8_init_134 : decode cX8_init 134 = .ok (.sipush 401, 3) := by decide +kernel
theorem dX8_init_137 : decode cX8_init 137 = .ok (.newarray .int, 2) := by decide +kernel
theorem dX8_init_139 : decode cX8_init 139 = .ok (.putfield 60, 3) := by decide +kernel
theorem dX8_init_142 : decode cX8_init 142 = .ok (.aload_n 0, 1) := by decide +kernel
theorem dX8_init_143 : decode cX8_init 143 = .ok (.sipush 401, 3) := by decide +kernel
theorem dX8_init_146 : decode cX8_init 146 = .ok (.newarray .int, 2) := by decide +kernel
theorem dX8_init_148 : decode cX8_init 148 = .ok (.putfield 63, 3) := by decide +kernel
theorem dX8_init_151 : decode cX8_init 151 = .ok (.iconst 0, 1) := by decide +kernel
theorem dX8_init_152 : decode cX8_init 152 = .ok (.istore_n 1, 1) := by decide +kernel
theorem dX8_init_153 : decode cX8_init 153 = .ok (.iconst 0, 1) := by decide +kernel
theorem dX8_init_154 : decode cX8_init 154 = .ok (.istore_n 2, 1) := by decide +kernel
theorem dX8_init_155 : decode cX8_init 155 = .ok (.iload_n 2, 1) := by decide +kernel
theorem dX8_init_156 : decode cX8_init 156 = .ok (.bipush 11, 2) := by decide +kernel
theorem dX8_init_158 : decode cX8_init 158 = .ok (.if_icmp .ge 62, 3) := by decide +kernel
theorem dX8_init_161 : decode cX8_init 161 = .ok (.aload_n 0, 1) := by decide +kernel
theorem dX8_init_162 : decode cX8_init 162 = .ok (.getfield 23, 3) := by decide +kernel
theorem dX8_init_165 : decode cX8_init 165 = .ok (.iload_n 2, 1) := by decide +kernel
theorem dX8_init_166 : decode cX8_init 166 = .ok (.iload_n 1, 1) := by decide +kernel
theorem dX8_init_167 : decode cX8_init 167 = .ok (.iastore, 1) := by decide +kernel
theorem dX8_init_168 : decode cX8_init 168 = .ok (.iconst 1, 1) := by decide +kernel
theorem dX8_init_169 : decode cX8_init 169 = .ok (.istore_n 3, 1) := by decide +kernel
theorem dX8_init_170 : decode cX8_init 170 = .ok (.iload_n 3, 1) := by decide +kernel
theorem dX8_init_171 : decode cX8_init 171 = .ok (.iload_n 2, 1) := by decide +kernel
theorem dX8_init_172 : decode cX8_init 172 = .ok (.invokestatic 66, 3) := by decide +kernel
theorem dX8_init_175 : decode cX8_init 175 = .ok (.if_icmp .gt 39, 3) := by decide +kernel
theorem dX8_init_178 : decode cX8_init 178 = .ok (.aload_n 0, 1) := by decide +kernel
theorem dX8_init_179 : decode cX8_init 179 = .ok (.getfield 17, 3) := by decide +kernel
theorem dX8_init_182 : decode cX8_init 182 = .ok (.iload_n 1, 1) := by decide +kernel
theorem dX8_init_183 : decode cX8_init 183 = .ok (.iload_n 2, 1) := by decide +kernel
theorem dX8_init_184 : decode cX8_init 184 = .ok (.iconst 5, 1) := by decide +kernel
theorem dX8_init_185 : decode cX8_init 185 = .ok (.isub, 1) := by decide +kernel
theorem dX8_init_186 : decode cX8_init 186 = .ok (.iastore, 1) := by decide +kernel
theorem dX8_init_187 : decode cX8_init 187 = .ok (.aload_n 0, 1) := by decide +kernel
theorem dX8_init_188 : decode cX8_init 188 = .ok (.getfield 20, 3) := by decide +kernel
theorem dX8_init_191 : decode cX8_init 191 = .ok (.iload_n 1, 1) := by decide +kernel
theorem dX8_init_192 : decode cX8_init 192 = .ok (.iload_n 3, 1) := by decide +kernel
theorem dX8_init_193 : decode cX8_init 193 = .ok (.bipush 6, 2) := by decide +kernel
theorem dX8_init_195 : decode cX8_init 195 = .ok (.isub, 1) := by decide +kernel
theorem dX8_init_196 : decode cX8_init 196 = .ok (.iconst 0, 1) := by decide +kernel
theorem dX8_init_197 : decode cX8_init 197 = .ok (.iload_n 2, 1) := by decide +kernel
theorem dX8_init_198 : decode cX8_init 198 = .ok (.iconst 5, 1) := by decide +kernel
theorem dX8_init_199 : decode cX8_init 199 = .ok (.isub, 1) := by decide +kernel
theorem dX8_init_200 : decode cX8_init 200 = .ok (.invokestatic 70, 3) := by decide +kernel
theorem dX8_init_203 : decode cX8_init 203 = .ok (.isub, 1) := by decide +kernel
theorem dX8_init_204 : decode cX8_init 204 = .ok (.iastore, 1) := by decide +kernel
theorem dX8_init_205 : decode cX8_init 205 = .ok (.iinc 1 1, 3) := by decide +kernel
theorem dX8_init_208 : decode cX8_init 208 = .ok (.iinc 3 1, 3) := by decide +kernel
theorem dX8_init_211 : decode cX8_init 211 = .ok (.goto (-41), 3) := by decide +kernel
theorem dX8_init_214 : decode cX8_init 214 = .ok (.iinc 2 1, 3) := by decide +kernel
theorem dX8_init_217 : decode cX8_init 217 = .ok (.goto (-62), 3) := by decide +kernel
theorem dX8_init_220 : decode cX8_init 220 = .ok (.aload_n 0, 1) := by decide +kernel
theorem dX8_init_221 : decode cX8_init 221 = .ok (.getfield 23, 3) := by decide +kernel
theorem dX8_init_224 : decode cX8_init 224 = .ok (.bipush 11, 2) := by decide +kernel
theorem dX8_init_226 : decode cX8_init 226 = .ok (.iload_n 1, 1) := by decide +kernel
theorem dX8_init_227 : decode cX8_init 227 = .ok (.iastore, 1) := by decide +kernel
theorem dX8_init_228 : decode cX8_init 228 = .ok (.iconst 0, 1) := by decide +kernel
theorem dX8_init_229 : decode cX8_init 229 = .ok (.istore_n 2, 1) := by decide +kernel
theorem dX8_init_230 : decode cX8_init 230 = .ok (.iload_n 2, 1) := by decide +kernel
theorem dX8_init_231 : decode cX8_init 231 = .ok (.bipush 91, 2) := by decide +kernel
theorem dX8_init_233 : decode cX8_init 233 = .ok (.if_icmp .ge 126, 3) := by decide +kernel
theorem dX8_init_236 : decode cX8_init 236 = .ok (.iconst 0, 1) := by decide +kernel
theorem dX8_init_237 : decode cX8_init 237 = .ok (.istore_n 3, 1) := by decide +kernel
theorem dX8_init_238 : decode cX8_init 238 = .ok (.iload_n 3, 1) := by decide +kernel
theorem dX8_init_239 : decode cX8_init 239 = .ok (.bipush 12, 2) := by decide +kernel
theorem dX8_init_241 : decode cX8_init 241 = .ok (.if_icmp .ge 112, 3) := by decide +kernel
theorem dX8_init_244 : decode cX8_init 244 = .ok (.iload_n 3, 1) := by decide +kernel
theorem dX8_init_245 : decode cX8_init 245 = .ok (.bipush 6, 2) := by decide +kernel
theorem dX8_init_247 : decode cX8_init 247 = .ok (.if_icmp .ge 7, 3) := by decide +kernel
theorem dX8_init_250 : decode cX8_init 250 = .ok (.iconst 1, 1) := by decide +kernel
theorem dX8_init_251 : decode cX8_init 251 = .ok (.goto 4, 3) := by decide +kernel
theorem dX8_init_254 : decode cX8_init 254 = .ok (.iconst (-1), 1) := by decide +kernel
theorem dX8_init_255 : decode cX8_init 255 = .ok (.istore 4, 2) := by decide +kernel
theorem dX8_init_257 : decode cX8_init 257 = .ok (.aload_n 0, 1) := by decide +kernel
theorem dX8_init_258 : decode cX8_init 258 = .ok (.getfield 26, 3) := by decide +kernel
theorem dX8_init_261 : decode cX8_init 261 = .ok (.bipush 12, 2) := by decide +kernel
theorem dX8_init_263 : decode cX8_init 263 = .ok (.iload_n 2, 1) := by decide +kernel
theorem dX8_init_264 : decode cX8_init 264 = .ok (.imul, 1) := by decide +kernel
theorem dX8_init_265 : decode cX8_init 265 = .ok (.iload_n 3, 1) := by decide +kernel
theorem dX8_init_266 : decode cX8_init 266 = .ok (.iadd, 1) := by decide +kernel
theorem dX8_init_267 : decode cX8_init 267 = .ok (.aload_n 0, 1) := by decide +kernel
theorem dX8_init_268 : decode cX8_init 268 = .ok (.aload_n 0, 1) := by decide +kernel
theorem dX8_init_269 : decode cX8_init 269 = .ok (.getfield 17, 3) := by decide +kernel
theorem dX8_init_272 : decode cX8_init 272 = .ok (.iload_n 2, 1) := by decide +kernel
theorem dX8_init_273 : decode cX8_init 273 = .ok (.iaload, 1) := by decide +kernel
theorem dX8_init_274 : decode cX8_init 274 = .ok (.getstatic 76, 3) := by decide +kernel
theorem dX8_init_277 : decode cX8_init 277 = .ok (.iload_n 3, 1) := by decide +kernel
theorem dX8_init_278 : decode cX8_init 278 = .ok (.iaload, 1) := by decide +kernel
theorem dX8_init_279 : decode cX8_init 279 = .ok (.iadd, 1) := by decide +kernel
theorem dX8_init_280 : decode cX8_init 280 = .ok (.aload_n 0, 1) := by decide +kernel
theorem dX8_init_281 : decode cX8_init 281 = .ok (.getfield 20, 3) := by decide +kernel
theorem dX8_init_284 : decode cX8_init 284 = .ok (.iload_n 2, 1) := by decide +kernel
theorem dX8_init_285 : decode cX8_init 285 = .ok (.iaload, 1) := by decide +kernel
theorem dX8_init_286 : decode cX8_init 286 = .ok (.getstatic 79, 3) := by decide +kernel
theorem dX8_init_289 : decode cX8_init 289 = .ok (.iload_n 3, 1) := by decide +kernel
theorem dX8_init_290 : decode cX8_init 290 = .ok (.iaload, 1) := by decide +kernel
theorem dX8_init_291 : decode cX8_init 291 = .ok (.iadd, 1) := by decide +kernel
theorem dX8_init_292 : decode cX8_init 292 = .ok (.invokevirtual 82, 3) := by decide +kernel
theorem dX8_init_295 : decode cX8_init 295 = .ok (.iastore, 1) := by decide +kernel
theorem dX8_init_296 : decode cX8_init 296 = .ok (.aload_n 0, 1) := by decide +kernel
theorem dX8_init_297 : decode cX8_init 297 = .ok (.getfield 29, 3) := by decide +kernel
theorem dX8_init_300 : decode cX8_init 300 = .ok (.bipush 12, 2) := by decide +kernel
theorem dX8_init_302 : decode cX8_init 302 = .ok (.iload_n 2, 1) := by decide +kernel
theorem dX8_init_303 : decode cX8_init 303 = .ok (.imul, 1) := by decide +kernel
theorem dX8_init_304 : decode cX8_init 304 = .ok (.iload_n 3, 1) := by decide +kernel
theorem dX8_init_305 : decode cX8_init 305 = .ok (.iadd, 1) := by decide +kernel
theorem dX8_init_306 : decode cX8_init 306 = .ok (.aload_n 0, 1) := by decide +kernel
theorem dX8_init_307 : decode cX8_init 307 = .ok (.aload_n 0, 1) := by decide +kernel
theorem dX8_init_308 : decode cX8_init 308 = .ok (.getfield 17, 3) := by decide +kernel
theorem dX8_init_311 : decode cX8_init 311 = .ok (.iload_n 2, 1) := by decide +kernel
theorem dX8_init_312 : decode cX8_init 312 = .ok (.iaload, 1) := by decide +kernel
theorem dX8_init_313 : decode cX8_init 313 = .ok (.iload 4, 2) := by decide +kernel
theorem dX8_init_315 : decode cX8_init 315 = .ok (.getstatic 85, 3) := by decide +kernel
theorem dX8_init_318 : decode cX8_init 318 = .ok (.iload_n 3, 1) := by decide +kernel
theorem dX8_init_319 : decode cX8_init 319 = .ok (.bipush 6, 2) := by decide +kernel
theorem dX8_init_321 : decode cX8_init 321 = .ok (.irem, 1) := by decide +kernel
theorem dX8_init_322 : decode cX8_init 322 = .ok (.iaload, 1) := by decide +kernel
theorem dX8_init_323 : decode cX8_init 323 = .ok (.imul, 1) := by decide +kernel
theorem dX8_init_324 : decode cX8_init 324 = .ok (.iadd, 1) := by decide +kernel
theorem dX8_init_325 : decode cX8_init 325 = .ok (.aload_n 0, 1) := by decide +kernel
theorem dX8_init_326 : decode cX8_init 326 = .ok (.getfield 20, 3) := by decide +kernel
theorem dX8_init_329 : decode cX8_init 329 = .ok (.iload_n 2, 1) := by decide +kernel
theorem dX8_init_330 : decode cX8_init 330 = .ok (.iaload, 1) := by decide +kernel
theorem dX8_init_331 : decode cX8_init 331 = .ok (.iload 4, 2) := by decide +kernel
theorem dX8_init_333 : decode cX8_init 333 = .ok (.getstatic 88, 3) := by decide +kernel
theorem dX8_init_336 : decode cX8_init 336 = .ok (.iload_n 3, 1) := by decide +kernel
theorem dX8_init_337 : decode cX8_init 337 = .ok (.bipush 6, 2) := by decide +kernel
theorem dX8_init_339 : decode cX8_init 339 = .ok (.irem, 1) := by decide +kernel
theorem dX8_init_340 : decode cX8_init 340 = .ok (.iaload, 1) := by decide +kernel
theorem dX8_init_341 : decode cX8_init 341 = .ok (.imul, 1) := by decide +kernel
theorem dX8_init_342 : decode cX8_init 342 = .ok (.iadd, 1) := by decide +kernel
theorem dX8_init_343 : decode cX8_init 343 = .ok (.invokevirtual 82, 3) := by decide +kernel
theorem dX8_init_346 : decode cX8_init 346 = .ok (.iastore, 1) := by decide +kernel
theorem dX8_init_347 : decode cX8_init 347 = .ok (.iinc 3 1, 3) := by decide +kernel
theorem dX8_init_350 : decode cX8_init 350 = .ok (.goto (-112), 3) := by decide +kernel
theorem dX8_init_353 : decode cX8_init 353 = .ok (.iinc 2 1, 3) := by decide +kernel
theorem dX8_init_356 : decode cX8_init 356 = .ok (.goto (-126), 3) := by decide +kernel
theorem dX8_init_359 : decode cX8_init 359 = .ok (.return_, 1) := by decide +kernel
theorem dX8_thrown_0 : decode cX8_thrown 0 = .ok (.aload_n 0, 1) := by decide +kernel
theorem dX8_thrown_1 : decode cX8_thrown 1 = .ok (.getfield 91, 3) := by decide +kernel
theorem dX8_thrown_4 : decode cX8_thrown 4 = .ok (.ireturn, 1) := by decide +kernel
theorem dX8_no_0 : decode cX8_no 0 = .ok (.aload_n 0, 1) := by decide +kernel
theorem dX8_no_1 : decode cX8_no 1 = .ok (.iload_n 1, 1) := by decide +kernel
theorem dX8_no_2 : decode cX8_no 2 = .ok (.putfield 91, 3) := by decide +kernel
theorem dX8_no_5 : decode cX8_no 5 = .ok (.iconst 0, 1) := by decide +kernel
theorem dX8_no_6 : decode cX8_no 6 = .ok (.ireturn, 1) := by decide +kernel
theorem dX8_isIn_0 : decode cX8_isIn 0 = .ok (.iload_n 0, 1) := by decide +kernel
theorem dX8_isIn_1 : decode cX8_isIn 1 = .ok (.iload_n 1, 1) := by decide +kernel
theorem dX8_isIn_2 : decode cX8_isIn 2 = .ok (.if_icmp .lt 12, 3) := by decide +kernel
theorem dX8_isIn_5 : decode cX8_isIn 5 = .ok (.iload_n 0, 1) := by decide +kernel
theorem dX8_isIn_6 : decode cX8_isIn 6 = .ok (.iload_n 2, 1) := by decide +kernel
theorem dX8_isIn_7 : decode cX8_isIn 7 = .ok (.if_icmp .gt 7, 3) := by decide +kernel
theorem dX8_isIn_10 : decode cX8_isIn 10 = .ok (.iconst 1, 1) := by decide +kernel
theorem dX8_isIn_11 : decode cX8_isIn 11 = .ok (.goto 4, 3) := by decide +kernel
theorem dX8_isIn_14 : decode cX8_isIn 14 = .ok (.iconst 0, 1) := by decide +kernel
theorem dX8_isIn_15 : decode cX8_isIn 15 = .ok (.ireturn, 1) := by decide +kernel
theorem dX8_isCell_0 : decode cX8_isCell 0 = .ok (.iload_n 0, 1) := by decide +kernel
theorem dX8_isCell_1 : decode cX8_isCell 1 = .ok (.iconst 0, 1) := by decide +kernel
theorem dX8_isCell_2 : decode cX8_isCell 2 = .ok (.bipush 90, 2) := by decide +kernel
theorem dX8_isCell_4 : decode cX8_isCell 4 = .ok (.invokestatic 94, 3) := by decide +kernel
theorem dX8_isCell_7 : decode cX8_isCell 7 = .ok (.ireturn, 1) := by decide +kernel
theorem dX8_sizeOf_0 : decode cX8_sizeOf 0 = .ok (.bipush 11, 2) := by decide +kernel
theorem dX8_sizeOf_2 : decode cX8_sizeOf 2 = .ok (.iload_n 0, 1) := by decide +kernel
theorem dX8_sizeOf_3 : decode cX8_sizeOf 3 = .ok (.iconst 5, 1) := by decide +kernel
theorem dX8_sizeOf_4 : decode cX8_sizeOf 4 = .ok (.isub, 1) := by decide +kernel
theorem dX8_sizeOf_5 : decode cX8_sizeOf 5 = .ok (.invokestatic 98, 3) := by decide +kernel
theorem dX8_sizeOf_8 : decode cX8_sizeOf 8 = .ok (.isub, 1) := by decide +kernel
theorem dX8_sizeOf_9 : decode cX8_sizeOf 9 = .ok (.ireturn, 1) := by decide +kernel
theorem dX8_cellOf_0 : decode cX8_cellOf 0 = .ok (.iload_n 1, 1) := by decide +kernel
theorem dX8_cellOf_1 : decode cX8_cellOf 1 = .ok (.bipush (-5), 2) := by decide +kernel
theorem dX8_cellOf_3 : decode cX8_cellOf 3 = .ok (.iconst 5, 1) := by decide +kernel
theorem dX8_cellOf_4 : decode cX8_cellOf 4 = .ok (.invokestatic 94, 3) := by decide +kernel
theorem dX8_cellOf_7 : decode cX8_cellOf 7 = .ok (.ifCond .eq 25, 3) := by decide +kernel
theorem dX8_cellOf_10 : decode cX8_cellOf 10 = .ok (.iload_n 2, 1) := by decide +kernel
theorem dX8_cellOf_11 : decode cX8_cellOf 11 = .ok (.bipush (-5), 2) := by decide +kernel
theorem dX8_cellOf_13 : decode cX8_cellOf 13 = .ok (.iconst 5, 1) := by decide +kernel
theorem dX8_cellOf_14 : decode cX8_cellOf 14 = .ok (.invokestatic 94, 3) := by decide +kernel
theorem dX8_cellOf_17 : decode cX8_cellOf 17 = .ok (.ifCond .eq 15, 3) := by decide +kernel
theorem dX8_cellOf_20 : decode cX8_cellOf 20 = .ok (.iload_n 1, 1) := by decide +kernel
theorem dX8_cellOf_21 : decode cX8_cellOf 21 = .ok (.iload_n 2, 1) := by decide +kernel
theorem dX8_cellOf_22 : decode cX8_cellOf 22 = .ok (.iadd, 1) := by decide +kernel
theorem dX8_cellOf_23 : decode cX8_cellOf 23 = .ok (.bipush (-5), 2) := by decide +kernel
theorem dX8_cellOf_25 : decode cX8_cellOf 25 = .ok (.iconst 5, 1) := by decide +kernel
theorem dX8_cellOf_26 : decode cX8_cellOf 26 = .ok (.invokestatic 94, 3) := by decide +kernel
theorem dX8_cellOf_29 : decode cX8_cellOf 29 = .ok (.ifCond .ne 5, 3) := by decide +kernel
theorem dX8_cellOf_32 : decode cX8_cellOf 32 = .ok (.iconst (-1), 1) := by decide +kernel
theorem dX8_cellOf_33 : decode cX8_cellOf 33 = .ok (.ireturn, 1) := by decide +kernel
theorem dX8_cellOf_34 : decode cX8_cellOf 34 = .ok (.iload_n 2, 1) := by decide +kernel
theorem dX8_cellOf_35 : decode cX8_cellOf 35 = .ok (.bipush 6, 2) := by decide +kernel
theorem dX8_cellOf_37 : decode cX8_cellOf 37 = .ok (.iadd, 1) := by decide +kernel
theorem dX8_cellOf_38 : decode cX8_cellOf 38 = .ok (.iconst 0, 1) := by decide +kernel
theorem dX8_cellOf_39 : decode cX8_cellOf 39 = .ok (.iload_n 1, 1) := by decide +kernel
theorem dX8_cellOf_40 : decode cX8_cellOf 40 = .ok (.invokestatic 70, 3) := by decide +kernel
theorem dX8_cellOf_43 : decode cX8_cellOf 43 = .ok (.iadd, 1) := by decide +kernel
theorem dX8_cellOf_44 : decode cX8_cellOf 44 = .ok (.istore_n 3, 1) := by decide +kernel
theorem dX8_cellOf_45 : decode cX8_cellOf 45 = .ok (.iconst 0, 1) := by decide +kernel
theorem dX8_cellOf_46 : decode cX8_cellOf 46 = .ok (.istore 4, 2) := by decide +kernel
theorem dX8_cellOf_48 : decode cX8_cellOf 48 = .ok (.iconst 0, 1) := by decide +kernel
theorem dX8_cellOf_49 : decode cX8_cellOf 49 = .ok (.istore 5, 2) := by decide +kernel
theorem dX8_cellOf_51 : decode cX8_cellOf 51 = .ok (.iload 5, 2) := by decide +kernel
theorem dX8_cellOf_53 : decode cX8_cellOf 53 = .ok (.iload_n 1, 1) := by decide +kernel
theorem dX8_cellOf_54 : decode cX8_cellOf 54 = .ok (.iconst 5, 1) := by decide +kernel
theorem dX8_cellOf_55 : decode cX8_cellOf 55 = .ok (.iadd, 1) := by decide +kernel
theorem dX8_cellOf_56 : decode cX8_cellOf 56 = .ok (.if_icmp .ge 19, 3) := by decide +kernel
theorem dX8_cellOf_59 : decode cX8_cellOf 59 = .ok (.iload 4, 2) := by decide +kernel
theorem dX8_cellOf_61 : decode cX8_cellOf 61 = .ok (.iload 5, 2) := by decide +kernel
theorem dX8_cellOf_63 : decode cX8_cellOf 63 = .ok (.invokestatic 66, 3) := by decide +kernel
theorem dX8_cellOf_66 : decode cX8_cellOf 66 = .ok (.iadd, 1) := by decide +kernel
theorem dX8_cellOf_67 : decode cX8_cellOf 67 = .ok (.istore 4, 2) := by decide +kernel
theorem dX8_cellOf_69 : decode cX8_cellOf 69 = .ok (.iinc 5 1, 3) := by decide +kernel
theorem dX8_cellOf_72 : decode cX8_cellOf 72 = .ok (.goto (-21), 3) := by decide +kernel
theorem dX8_cellOf_75 : decode cX8_cellOf 75 = .ok (.iload 4, 2) := by decide +kernel
theorem dX8_cellOf_77 : decode cX8_cellOf 77 = .ok (.iload_n 3, 1) := by decide +kernel
theorem dX8_cellOf_78 : decode cX8_cellOf 78 = .ok (.iadd, 1) := by decide +kernel
theorem dX8_cellOf_79 : decode cX8_cellOf 79 = .ok (.iconst 1, 1) := by decide +kernel
theorem dX8_cellOf_80 : decode cX8_cellOf 80 = .ok (.isub, 1) := by decide +kernel
theorem dX8_cellOf_81 : decode cX8_cellOf 81 = .ok (.ireturn, 1) := by decide +kernel
theorem dX8_pieceOf_0 : decode cX8_pieceOf 0 = .ok (.iload_n 0, 1) := by decide +kernel
theorem dX8_pieceOf_1 : decode cX8_pieceOf 1 = .ok (.bipush 10, 2) := by decide +kernel
theorem dX8_pieceOf_3 : decode cX8_pieceOf 3 = .ok (.irem, 1) := by decide +kernel
theorem dX8_pieceOf_4 : decode cX8_pieceOf 4 = .ok (.ireturn, 1) := by decide +kernel
theorem dX8_sideOf_0 : decode cX8_sideOf 0 = .ok (.iload_n 0, 1) := by decide +kernel
theorem dX8_sideOf_1 : decode cX8_sideOf 1 = .ok (.ifCond .ne 7, 3) := by decide +kernel
theorem dX8_sideOf_4 : decode cX8_sideOf 4 = .ok (.iconst (-1), 1) := by decide +kernel
theorem dX8_sideOf_5 : decode cX8_sideOf 5 = .ok (.goto 7, 3) := by decide +kernel
theorem dX8_sideOf_8 : decode cX8_sideOf 8 = .ok (.iload_n 0, 1) := by decide +kernel
theorem dX8_sideOf_9 : decode cX8_sideOf 9 = .ok (.bipush 10, 2) := by decide +kernel
theorem dX8_sideOf_11 : decode cX8_sideOf 11 = .ok (.idiv, 1) := by decide +kernel
theorem dX8_sideOf_12 : decode cX8_sideOf 12 = .ok (.ireturn, 1) := by decide +kernel
theorem dX8_on_0 : decode cX8_on 0 = .ok (.iload_n 1, 1) := by decide +kernel
theorem dX8_on_1 : decode cX8_on 1 = .ok (.iconst (-1), 1) := by decide +kernel
theorem dX8_on_2 : decode cX8_on 2 = .ok (.if_icmp .ne 7, 3) := by decide +kernel
theorem dX8_on_5 : decode cX8_on 5 = .ok (.iconst (-1), 1) := by decide +kernel
theorem dX8_on_6 : decode cX8_on 6 = .ok (.goto 9, 3) := by decide +kernel
theorem dX8_on_9 : decode cX8_on 9 = .ok (.aload_n 0, 1) := by decide +kernel
theorem dX8_on_10 : decode cX8_on 10 = .ok (.getfield 32, 3) := by decide +kernel
theorem dX8_on_13 : decode cX8_on 13 = .ok (.iload_n 1, 1) := by decide +kernel
theorem dX8_on_14 : decode cX8_on 14 = .ok (.iaload, 1) := by decide +kernel
theorem dX8_on_15 : decode cX8_on 15 = .ok (.ireturn, 1) := by decide +kernel
theorem dX8_worth_0 : decode cX8_worth 0 = .ok (.iload_n 0, 1) := by decide +kernel
theorem dX8_worth_1 : decode cX8_worth 1 = .ok (.tableswitch 46 2 6 #[35, 38, 42, 40, 44], 35) := by decide +kernel
theorem dX8_worth_36 : decode cX8_worth 36 = .ok (.bipush 10, 2) := by decide +kernel
theorem dX8_worth_38 : decode cX8_worth 38 = .ok (.ireturn, 1) := by decide +kernel
theorem dX8_worth_39 : decode cX8_worth 39 = .ok (.iconst 5, 1) := by decide +kernel
theorem dX8_worth_40 : decode cX8_worth 40 = .ok (.ireturn, 1) := by decide +kernel
theorem dX8_worth_41 : decode cX8_worth 41 = .ok (.iconst 4, 1) := by decide +kernel
theorem dX8_worth_42 : decode cX8_worth 42 = .ok (.ireturn, 1) := by decide +kernel
theorem dX8_worth_43 : decode cX8_worth 43 = .ok (.iconst 3, 1) := by decide +kernel
theorem dX8_worth_44 : decode cX8_worth 44 = .ok (.ireturn, 1) := by decide +kernel
theorem dX8_worth_45 : decode cX8_worth 45 = .ok (.iconst 1, 1) := by decide +kernel
theorem dX8_worth_46 : decode cX8_worth 46 = .ok (.ireturn, 1) := by decide +kernel
theorem dX8_worth_47 : decode cX8_worth 47 = .ok (.iconst 0, 1) := by decide +kernel
theorem dX8_worth_48 : decode cX8_worth 48 = .ok (.ireturn, 1) := by decide +kernel
theorem dX8_ahead_0 : decode cX8_ahead 0 = .ok (.iload_n 0, 1) := by decide +kernel
theorem dX8_ahead_1 : decode cX8_ahead 1 = .ok (.ifCond .ne 7, 3) := by decide +kernel
theorem dX8_ahead_4 : decode cX8_ahead 4 = .ok (.iconst 0, 1) := by decide +kernel
theorem dX8_ahead_5 : decode cX8_ahead 5 = .ok (.goto 4, 3) := by decide +kernel
theorem dX8_ahead_8 : decode cX8_ahead 8 = .ok (.iconst 3, 1) := by decide +kernel
theorem dX8_ahead_9 : decode cX8_ahead 9 = .ok (.ireturn, 1) := by decide +kernel
theorem dX8_step_0 : decode cX8_step 0 = .ok (.iload_n 1, 1) := by decide +kernel
theorem dX8_step_1 : decode cX8_step 1 = .ok (.iconst (-1), 1) := by decide +kernel
theorem dX8_step_2 : decode cX8_step 2 = .ok (.if_icmp .ne 7, 3) := by decide +kernel
theorem dX8_step_5 : decode cX8_step 5 = .ok (.iconst (-1), 1) := by decide +kernel
theorem dX8_step_6 : decode cX8_step 6 = .ok (.goto 14, 3) := by decide +kernel
theorem dX8_step_9 : decode cX8_step 9 = .ok (.aload_n 0, 1) := by decide +kernel
theorem dX8_step_10 : decode cX8_step 10 = .ok (.getfield 26, 3) := by decide +kernel
theorem dX8_step_13 : decode cX8_step 13 = .ok (.bipush 12, 2) := by decide +kernel
theorem dX8_step_15 : decode cX8_step 15 = .ok (.iload_n 1, 1) := by decide +kernel
theorem dX8_step_16 : decode cX8_step 16 = .ok (.imul, 1) := by decide +kernel
theorem dX8_step_17 : decode cX8_step 17 = .ok (.iload_n 2, 1) := by decide +kernel
theorem dX8_step_18 : decode cX8_step 18 = .ok (.iadd, 1) := by decide +kernel
theorem dX8_step_19 : decode cX8_step 19 = .ok (.iaload, 1) := by decide +kernel
theorem dX8_step_20 : decode cX8_step 20 = .ok (.ireturn, 1) := by decide +kernel
theorem dX8_taking_0 : decode cX8_taking 0 = .ok (.iload_n 0, 1) := by decide +kernel
theorem dX8_taking_1 : decode cX8_taking 1 = .ok (.ifCond .ne 15, 3) := by decide +kernel
theorem dX8_taking_4 : decode cX8_taking 4 = .ok (.iload_n 1, 1) := by decide +kernel
theorem dX8_taking_5 : decode cX8_taking 5 = .ok (.ifCond .ne 7, 3) := by decide +kernel
theorem dX8_taking_8 : decode cX8_taking 8 = .ok (.iconst 1, 1) := by decide +kernel
theorem dX8_taking_9 : decode cX8_taking 9 = .ok (.goto 16, 3) := by decide +kernel
theorem dX8_taking_12 : decode cX8_taking 12 = .ok (.iconst 5, 1) := by decide +kernel
theorem dX8_taking_13 : decode cX8_taking 13 = .ok (.goto 12, 3) := by decide +kernel
theorem dX8_taking_16 : decode cX8_taking 16 = .ok (.iload_n 1, 1) := by decide +kernel
theorem dX8_taking_17 : decode cX8_taking 17 = .ok (.ifCond .ne 7, 3) := by decide +kernel
theorem dX8_taking_20 : decode cX8_taking 20 = .ok (.iconst 4, 1) := by decide +kernel
theorem dX8_taking_21 : decode cX8_taking 21 = .ok (.goto 4, 3) := by decide +kernel
theorem dX8_taking_24 : decode cX8_taking 24 = .ok (.iconst 2, 1) := by decide +kernel
theorem dX8_taking_25 : decode cX8_taking 25 = .ok (.ireturn, 1) := by decide +kernel
theorem dX8_isFirstCell_0 : decode cX8_isFirstCell 0 = .ok (.aload_n 0, 1) := by decide +kernel
theorem dX8_isFirstCell_1 : decode cX8_isFirstCell 1 = .ok (.getfield 17, 3) := by decide +kernel
theorem dX8_isFirstCell_4 : decode cX8_isFirstCell 4 = .ok (.iload_n 1, 1) := by decide +kernel
theorem dX8_isFirstCell_5 : decode cX8_isFirstCell 5 = .ok (.iaload, 1) := by decide +kernel
theorem dX8_isFirstCell_6 : decode cX8_isFirstCell 6 = .ok (.istore_n 3, 1) := by decide +kernel
theorem dX8_isFirstCell_7 : decode cX8_isFirstCell 7 = .ok (.iload_n 2, 1) := by decide +kernel
theorem dX8_isFirstCell_8 : decode cX8_isFirstCell 8 = .ok (.ifCond .ne 13, 3) := by decide +kernel
theorem dX8_isFirstCell_11 : decode cX8_isFirstCell 11 = .ok (.iconst (-1), 1) := by decide +kernel
theorem dX8_isFirstCell_12 : decode cX8_isFirstCell 12 = .ok (.iconst 0, 1) := by decide +kernel
theorem dX8_isFirstCell_13 : decode cX8_isFirstCell 13 = .ok (.iload_n 3, 1) := by decide +kernel
theorem dX8_isFirstCell_14 : decode cX8_isFirstCell 14 = .ok (.invokestatic 101, 3) := by decide +kernel
theorem dX8_isFirstCell_17 : decode cX8_isFirstCell 17 = .ok (.isub, 1) := by decide +kernel
theorem dX8_isFirstCell_18 : decode cX8_isFirstCell 18 = .ok (.goto 10, 3) := by decide +kernel
theorem dX8_isFirstCell_21 : decode cX8_isFirstCell 21 = .ok (.iconst 1, 1) := by decide +kernel
theorem dX8_isFirstCell_22 : decode cX8_isFirstCell 22 = .ok (.iconst 0, 1) := by decide +kernel
theorem dX8_isFirstCell_23 : decode cX8_isFirstCell 23 = .ok (.iload_n 3, 1) := by decide +kernel
theorem dX8_isFirstCell_24 : decode cX8_isFirstCell 24 = .ok (.invokestatic 70, 3) := by decide +kernel
theorem dX8_isFirstCell_27 : decode cX8_isFirstCell 27 = .ok (.isub, 1) := by decide +kernel
theorem dX8_isFirstCell_28 : decode cX8_isFirstCell 28 = .ok (.istore 4, 2) := by decide +kernel
theorem dX8_isFirstCell_30 : decode cX8_isFirstCell 30 = .ok (.iload_n 3, 1) := by decide +kernel
theorem dX8_isFirstCell_31 : decode cX8_isFirstCell 31 = .ok (.bipush (-4), 2) := by decide +kernel
theorem dX8_isFirstCell_33 : decode cX8_isFirstCell 33 = .ok (.iconst 4, 1) := by decide +kernel
theorem dX8_isFirstCell_34 : decode cX8_isFirstCell 34 = .ok (.invokestatic 94, 3) := by decide +kernel
theorem dX8_isFirstCell_37 : decode cX8_isFirstCell 37 = .ok (.ifCond .eq 18, 3) := by decide +kernel
theorem dX8_isFirstCell_40 : decode cX8_isFirstCell 40 = .ok (.aload_n 0, 1) := by decide +kernel
theorem dX8_isFirstCell_41 : decode cX8_isFirstCell 41 = .ok (.getfield 20, 3) := by decide +kernel
theorem dX8_isFirstCell_44 : decode cX8_isFirstCell 44 = .ok (.iload_n 1, 1) := by decide +kernel
theorem dX8_isFirstCell_45 : decode cX8_isFirstCell 45 = .ok (.iaload, 1) := by decide +kernel
theorem dX8_isFirstCell_46 : decode cX8_isFirstCell 46 = .ok (.iload 4, 2) := by decide +kernel
theorem dX8_isFirstCell_48 : decode cX8_isFirstCell 48 = .ok (.if_icmp .ne 7, 3) := by decide +kernel
theorem dX8_isFirstCell_51 : decode cX8_isFirstCell 51 = .ok (.iconst 1, 1) := by decide +kernel
theorem dX8_isFirstCell_52 : decode cX8_isFirstCell 52 = .ok (.goto 4, 3) := by decide +kernel
theorem dX8_isFirstCell_55 : decode cX8_isFirstCell 55 = .ok (.iconst 0, 1) := by decide +kernel
theorem dX8_isFirstCell_56 : decode cX8_isFirstCell 56 = .ok (.ireturn, 1) := by decide +kernel
theorem dX8_isLast_0 : decode cX8_isLast 0 = .ok (.aload_n 0, 1) := by decide +kernel
theorem dX8_isLast_1 : decode cX8_isLast 1 = .ok (.iload_n 1, 1) := by decide +kernel
theorem dX8_isLast_2 : decode cX8_isLast 2 = .ok (.iload_n 2, 1) := by decide +kernel
theorem dX8_isLast_3 : decode cX8_isLast 3 = .ok (.invokestatic 104, 3) := by decide +kernel
theorem dX8_isLast_6 : decode cX8_isLast 6 = .ok (.invokevirtual 107, 3) := by decide +kernel
theorem dX8_isLast_9 : decode cX8_isLast 9 = .ok (.iconst (-1), 1) := by decide +kernel
theorem dX8_isLast_10 : decode cX8_isLast 10 = .ok (.if_icmp .ne 7, 3) := by decide +kernel
theorem dX8_isLast_13 : decode cX8_isLast 13 = .ok (.iconst 1, 1) := by decide +kernel
theorem dX8_isLast_14 : decode cX8_isLast 14 = .ok (.goto 4, 3) := by decide +kernel
theorem dX8_isLast_17 : decode cX8_isLast 17 = .ok (.iconst 0, 1) := by decide +kernel
theorem dX8_isLast_18 : decode cX8_isLast 18 = .ok (.ireturn, 1) := by decide +kernel
theorem dX8_kingOf_0 : decode cX8_kingOf 0 = .ok (.iconst 0, 1) := by decide +kernel
theorem dX8_kingOf_1 : decode cX8_kingOf 1 = .ok (.istore_n 2, 1) := by decide +kernel
theorem dX8_kingOf_2 : decode cX8_kingOf 2 = .ok (.iload_n 2, 1) := by decide +kernel
theorem dX8_kingOf_3 : decode cX8_kingOf 3 = .ok (.bipush 91, 2) := by decide +kernel
theorem dX8_kingOf_5 : decode cX8_kingOf 5 = .ok (.if_icmp .ge 26, 3) := by decide +kernel
theorem dX8_kingOf_8 : decode cX8_kingOf 8 = .ok (.aload_n 0, 1) := by decide +kernel
theorem dX8_kingOf_9 : decode cX8_kingOf 9 = .ok (.getfield 32, 3) := by decide +kernel
theorem dX8_kingOf_12 : decode cX8_kingOf 12 = .ok (.iload_n 2, 1) := by decide +kernel
theorem dX8_kingOf_13 : decode cX8_kingOf 13 = .ok (.iaload, 1) := by decide +kernel
theorem dX8_kingOf_14 : decode cX8_kingOf 14 = .ok (.bipush 10, 2) := by decide +kernel
theorem dX8_kingOf_16 : decode cX8_kingOf 16 = .ok (.iload_n 1, 1) := by decide +kernel
theorem dX8_kingOf_17 : decode cX8_kingOf 17 = .ok (.imul, 1) := by decide +kernel
theorem dX8_kingOf_18 : decode cX8_kingOf 18 = .ok (.iconst 1, 1) := by decide +kernel
theorem dX8_kingOf_19 : decode cX8_kingOf 19 = .ok (.iadd, 1) := by decide +kernel
theorem dX8_kingOf_20 : decode cX8_kingOf 20 = .ok (.if_icmp .ne 5, 3) := by decide +kernel
theorem dX8_kingOf_23 : decode cX8_kingOf 23 = .ok (.iload_n 2, 1) := by decide +kernel
theorem dX8_kingOf_24 : decode cX8_kingOf 24 = .ok (.ireturn, 1) := by decide +kernel
theorem dX8_kingOf_25 : decode cX8_kingOf 25 = .ok (.iinc 2 1, 3) := by decide +kernel
theorem dX8_kingOf_28 : decode cX8_kingOf 28 = .ok (.goto (-26), 3) := by decide +kernel
theorem dX8_kingOf_31 : decode cX8_kingOf 31 = .ok (.iconst (-1), 1) := by decide +kernel
theorem dX8_kingOf_32 : decode cX8_kingOf 32 = .ok (.ireturn, 1) := by decide +kernel
theorem dX8_slidersAt_0 : decode cX8_slidersAt 0 = .ok (.iconst 0, 1) := by decide +kernel
theorem dX8_slidersAt_1 : decode cX8_slidersAt 1 = .ok (.istore_n 3, 1) := by decide +kernel
theorem dX8_slidersAt_2 : decode cX8_slidersAt 2 = .ok (.iconst 0, 1) := by decide +kernel
theorem dX8_slidersAt_3 : decode cX8_slidersAt 3 = .ok (.istore 4, 2) := by decide +kernel
theorem dX8_slidersAt_5 : decode cX8_slidersAt 5 = .ok (.iload 4, 2) := by decide +kernel
theorem dX8_slidersAt_7 : decode cX8_slidersAt 7 = .ok (.bipush 12, 2) := by decide +kernel
theorem dX8_slidersAt_9 : decode cX8_slidersAt 9 = .ok (.if_icmp .ge 96, 3) := by decide +kernel
theorem dX8_slidersAt_12 : decode cX8_slidersAt 12 = .ok (.aload_n 0, 1) := by decide +kernel
theorem dX8_slidersAt_13 : decode cX8_slidersAt 13 = .ok (.iload_n 1, 1) := by decide +kernel
theorem dX8_slidersAt_14 : decode cX8_slidersAt 14 = .ok (.iload 4, 2) := by decide +kernel
theorem dX8_slidersAt_16 : decode cX8_slidersAt 16 = .ok (.invokevirtual 107, 3) := by decide +kernel
theorem dX8_slidersAt_19 : decode cX8_slidersAt 19 = .ok (.istore 5, 2) := by decide +kernel
theorem dX8_slidersAt_21 : decode cX8_slidersAt 21 = .ok (.iload 5, 2) := by decide +kernel
theorem dX8_slidersAt_23 : decode cX8_slidersAt 23 = .ok (.iconst (-1), 1) := by decide +kernel
theorem dX8_slidersAt_24 : decode cX8_slidersAt 24 = .ok (.if_icmp .eq 26, 3) := by decide +kernel
theorem dX8_slidersAt_27 : decode cX8_slidersAt 27 = .ok (.aload_n 0, 1) := by decide +kernel
theorem dX8_slidersAt_28 : decode cX8_slidersAt 28 = .ok (.getfield 32, 3) := by decide +kernel
theorem dX8_slidersAt_31 : decode cX8_slidersAt 31 = .ok (.iload 5, 2) := by decide +kernel
theorem dX8_slidersAt_33 : decode cX8_slidersAt 33 = .ok (.iaload, 1) := by decide +kernel
theorem dX8_slidersAt_34 : decode cX8_slidersAt 34 = .ok (.ifCond .ne 16, 3) := by decide +kernel
theorem dX8_slidersAt_37 : decode cX8_slidersAt 37 = .ok (.aload_n 0, 1) := by decide +kernel
theorem dX8_slidersAt_38 : decode cX8_slidersAt 38 = .ok (.iload 5, 2) := by decide +kernel
theorem dX8_slidersAt_40 : decode cX8_slidersAt 40 = .ok (.iload 4, 2) := by decide +kernel
theorem dX8_slidersAt_42 : decode cX8_slidersAt 42 = .ok (.invokevirtual 107, 3) := by decide +kernel
theorem dX8_slidersAt_45 : decode cX8_slidersAt 45 = .ok (.istore 5, 2) := by decide +kernel
theorem dX8_slidersAt_47 : decode cX8_slidersAt 47 = .ok (.goto (-26), 3) := by decide +kernel
theorem dX8_slidersAt_50 : decode cX8_slidersAt 50 = .ok (.aload_n 0, 1) := by decide +kernel
theorem dX8_slidersAt_51 : decode cX8_slidersAt 51 = .ok (.iload 5, 2) := by decide +kernel
theorem dX8_slidersAt_53 : decode cX8_slidersAt 53 = .ok (.invokevirtual 110, 3) := by decide +kernel
theorem dX8_slidersAt_56 : decode cX8_slidersAt 56 = .ok (.istore 6, 2) := by decide +kernel
theorem dX8_slidersAt_58 : decode cX8_slidersAt 58 = .ok (.iload_n 3, 1) := by decide +kernel
theorem dX8_slidersAt_59 : decode cX8_slidersAt 59 = .ok (.iload 6, 2) := by decide +kernel
theorem dX8_slidersAt_61 : decode cX8_slidersAt 61 = .ok (.bipush 10, 2) := by decide +kernel
theorem dX8_slidersAt_63 : decode cX8_slidersAt 63 = .ok (.iload_n 2, 1) := by decide +kernel
theorem dX8_slidersAt_64 : decode cX8_slidersAt 64 = .ok (.imul, 1) := by decide +kernel
theorem dX8_slidersAt_65 : decode cX8_slidersAt 65 = .ok (.iconst 2, 1) := by decide +kernel
theorem dX8_slidersAt_66 : decode cX8_slidersAt 66 = .ok (.iadd, 1) := by decide +kernel
theorem dX8_slidersAt_67 : decode cX8_slidersAt 67 = .ok (.if_icmp .eq 25, 3) := by decide +kernel
theorem dX8_slidersAt_70 : decode cX8_slidersAt 70 = .ok (.iload 6, 2) := by decide +kernel
theorem dX8_slidersAt_72 : decode cX8_slidersAt 72 = .ok (.bipush 10, 2) := by decide +kernel
theorem dX8_slidersAt_74 : decode cX8_slidersAt 74 = .ok (.iload_n 2, 1) := by decide +kernel
theorem dX8_slidersAt_75 : decode cX8_slidersAt 75 = .ok (.imul, 1) := by decide +kernel
theorem dX8_slidersAt_76 : decode cX8_slidersAt 76 = .ok (.iload 4, 2) := by decide +kernel
theorem dX8_slidersAt_78 : decode cX8_slidersAt 78 = .ok (.bipush 6, 2) := by decide +kernel
theorem dX8_slidersAt_80 : decode cX8_slidersAt 80 = .ok (.if_icmp .ge 7, 3) := by decide +kernel
theorem dX8_slidersAt_83 : decode cX8_slidersAt 83 = .ok (.iconst 3, 1) := by decide +kernel
theorem dX8_slidersAt_84 : decode cX8_slidersAt 84 = .ok (.goto 4, 3) := by decide +kernel
theorem dX8_slidersAt_87 : decode cX8_slidersAt 87 = .ok (.iconst 4, 1) := by decide +kernel
theorem dX8_slidersAt_88 : decode cX8_slidersAt 88 = .ok (.iadd, 1) := by decide +kernel
theorem dX8_slidersAt_89 : decode cX8_slidersAt 89 = .ok (.if_icmp .ne 7, 3) := by decide +kernel
theorem dX8_slidersAt_92 : decode cX8_slidersAt 92 = .ok (.iconst 1, 1) := by decide +kernel
theorem dX8_slidersAt_93 : decode cX8_slidersAt 93 = .ok (.goto 4, 3) := by decide +kernel
theorem dX8_slidersAt_96 : decode cX8_slidersAt 96 = .ok (.iconst 0, 1) := by decide +kernel
theorem dX8_slidersAt_97 : decode cX8_slidersAt 97 = .ok (.iadd, 1) := by decide +kernel
theorem dX8_slidersAt_98 : decode cX8_slidersAt 98 = .ok (.istore_n 3, 1) := by decide +kernel
theorem dX8_slidersAt_99 : decode cX8_slidersAt 99 = .ok (.iinc 4 1, 3) := by decide +kernel
theorem dX8_slidersAt_102 : decode cX8_slidersAt 102 = .ok (.goto (-97), 3) := by decide +kernel
theorem dX8_slidersAt_105 : decode cX8_slidersAt 105 = .ok (.iload_n 3, 1) := by decide +kernel
theorem dX8_slidersAt_106 : decode cX8_slidersAt 106 = .ok (.ireturn, 1) := by decide +kernel
theorem dX8_attacksOn_0 : decode cX8_attacksOn 0 = .ok (.aload_n 0, 1) := by decide +kernel
theorem dX8_attacksOn_1 : decode cX8_attacksOn 1 = .ok (.iload_n 1, 1) := by decide +kernel
theorem dX8_attacksOn_2 : decode cX8_attacksOn 2 = .ok (.iload_n 2, 1) := by decide +kernel
theorem dX8_attacksOn_3 : decode cX8_attacksOn 3 = .ok (.invokevirtual 113, 3) := by decide +kernel
theorem dX8_attacksOn_6 : decode cX8_attacksOn 6 = .ok (.istore_n 3, 1) := by decide +kernel
theorem dX8_attacksOn_7 : decode cX8_attacksOn 7 = .ok (.iconst 0, 1) := by decide +kernel
theorem dX8_attacksOn_8 : decode cX8_attacksOn 8 = .ok (.istore 4, 2) := by decide +kernel
theorem dX8_attacksOn_10 : decode cX8_attacksOn 10 = .ok (.iload 4, 2) := by decide +kernel
theorem dX8_attacksOn_12 : decode cX8_attacksOn 12 = .ok (.bipush 12, 2) := by decide +kernel
theorem dX8_attacksOn_14 : decode cX8_attacksOn 14 = .ok (.if_icmp .ge 75, 3) := by decide +kernel
theorem dX8_attacksOn_17 : decode cX8_attacksOn 17 = .ok (.iload_n 3, 1) := by decide +kernel
theorem dX8_attacksOn_18 : decode cX8_attacksOn 18 = .ok (.aload_n 0, 1) := by decide +kernel
theorem dX8_attacksOn_19 : decode cX8_attacksOn 19 = .ok (.aload_n 0, 1) := by decide +kernel
theorem dX8_attacksOn_20 : decode cX8_attacksOn 20 = .ok (.getfield 26, 3) := by decide +kernel
theorem dX8_attacksOn_23 : decode cX8_attacksOn 23 = .ok (.bipush 12, 2) := by decide +kernel
theorem dX8_attacksOn_25 : decode cX8_attacksOn 25 = .ok (.iload_n 1, 1) := by decide +kernel
theorem dX8_attacksOn_26 : decode cX8_attacksOn 26 = .ok (.imul, 1) := by decide +kernel
theorem dX8_attacksOn_27 : decode cX8_attacksOn 27 = .ok (.iload 4, 2) := by decide +kernel
theorem dX8_attacksOn_29 : decode cX8_attacksOn 29 = .ok (.iadd, 1) := by decide +kernel
theorem dX8_attacksOn_30 : decode cX8_attacksOn 30 = .ok (.iaload, 1) := by decide +kernel
theorem dX8_attacksOn_31 : decode cX8_attacksOn 31 = .ok (.invokevirtual 110, 3) := by decide +kernel
theorem dX8_attacksOn_34 : decode cX8_attacksOn 34 = .ok (.bipush 10, 2) := by decide +kernel
theorem dX8_attacksOn_36 : decode cX8_attacksOn 36 = .ok (.iload_n 2, 1) := by decide +kernel
theorem dX8_attacksOn_37 : decode cX8_attacksOn 37 = .ok (.imul, 1) := by decide +kernel
theorem dX8_attacksOn_38 : decode cX8_attacksOn 38 = .ok (.iconst 1, 1) := by decide +kernel
theorem dX8_attacksOn_39 : decode cX8_attacksOn 39 = .ok (.iadd, 1) := by decide +kernel
theorem dX8_attacksOn_40 : decode cX8_attacksOn 40 = .ok (.if_icmp .ne 7, 3) := by decide +kernel
theorem dX8_attacksOn_43 : decode cX8_attacksOn 43 = .ok (.iconst 1, 1) := by decide +kernel
theorem dX8_attacksOn_44 : decode cX8_attacksOn 44 = .ok (.goto 4, 3) := by decide +kernel
theorem dX8_attacksOn_47 : decode cX8_attacksOn 47 = .ok (.iconst 0, 1) := by decide +kernel
theorem dX8_attacksOn_48 : decode cX8_attacksOn 48 = .ok (.iadd, 1) := by decide +kernel
theorem dX8_attacksOn_49 : decode cX8_attacksOn 49 = .ok (.istore_n 3, 1) := by decide +kernel
theorem dX8_attacksOn_50 : decode cX8_attacksOn 50 = .ok (.iload_n 3, 1) := by decide +kernel
theorem dX8_attacksOn_51 : decode cX8_attacksOn 51 = .ok (.aload_n 0, 1) := by decide +kernel
theorem dX8_attacksOn_52 : decode cX8_attacksOn 52 = .ok (.aload_n 0, 1) := by decide +kernel
theorem dX8_attacksOn_53 : decode cX8_attacksOn 53 = .ok (.getfield 29, 3) := by decide +kernel
theorem dX8_attacksOn_56 : decode cX8_attacksOn 56 = .ok (.bipush 12, 2) := by decide +kernel
theorem dX8_attacksOn_58 : decode cX8_attacksOn 58 = .ok (.iload_n 1, 1) := by decide +kernel
theorem dX8_attacksOn_59 : decode cX8_attacksOn 59 = .ok (.imul, 1) := by decide +kernel
theorem dX8_attacksOn_60 : decode cX8_attacksOn 60 = .ok (.iload 4, 2) := by decide +kernel
theorem dX8_attacksOn_62 : decode cX8_attacksOn 62 = .ok (.iadd, 1) := by decide +kernel
theorem dX8_attacksOn_63 : decode cX8_attacksOn 63 = .ok (.iaload, 1) := by decide +kernel
theorem dX8_attacksOn_64 : decode cX8_attacksOn 64 = .ok (.invokevirtual 110, 3) := by decide +kernel
theorem dX8_attacksOn_67 : decode cX8_attacksOn 67 = .ok (.bipush 10, 2) := by decide +kernel
theorem dX8_attacksOn_69 : decode cX8_attacksOn 69 = .ok (.iload_n 2, 1) := by decide +kernel
theorem dX8_attacksOn_70 : decode cX8_attacksOn 70 = .ok (.imul, 1) := by decide +kernel
theorem dX8_attacksOn_71 : decode cX8_attacksOn 71 = .ok (.iconst 5, 1) := by decide +kernel
theorem dX8_attacksOn_72 : decode cX8_attacksOn 72 = .ok (.iadd, 1) := by decide +kernel
theorem dX8_attacksOn_73 : decode cX8_attacksOn 73 = .ok (.if_icmp .ne 7, 3) := by decide +kernel
theorem dX8_attacksOn_76 : decode cX8_attacksOn 76 = .ok (.iconst 1, 1) := by decide +kernel
theorem dX8_attacksOn_77 : decode cX8_attacksOn 77 = .ok (.goto 4, 3) := by decide +kernel
theorem dX8_attacksOn_80 : decode cX8_attacksOn 80 = .ok (.iconst 0, 1) := by decide +kernel
theorem dX8_attacksOn_81 : decode cX8_attacksOn 81 = .ok (.iadd, 1) := by decide +kernel
theorem dX8_attacksOn_82 : decode cX8_attacksOn 82 = .ok (.istore_n 3, 1) := by decide +kernel
theorem dX8_attacksOn_83 : decode cX8_attacksOn 83 = .ok (.iinc 4 1, 3) := by decide +kernel
theorem dX8_attacksOn_86 : decode cX8_attacksOn 86 = .ok (.goto (-76), 3) := by decide +kernel
theorem dX8_attacksOn_89 : decode cX8_attacksOn 89 = .ok (.iconst 0, 1) := by decide +kernel
theorem dX8_attacksOn_90 : decode cX8_attacksOn 90 = .ok (.istore 4, 2) := by decide +kernel
theorem dX8_attacksOn_92 : decode cX8_attacksOn 92 = .ok (.iload 4, 2) := by decide +kernel
theorem dX8_attacksOn_94 : decode cX8_attacksOn 94 = .ok (.iconst 2, 1) := by decide +kernel
theorem dX8_attacksOn_95 : decode cX8_attacksOn 95 = .ok (.if_icmp .ge 44, 3) := by decide +kernel
theorem dX8_attacksOn_98 : decode cX8_attacksOn 98 = .ok (.iload_n 3, 1) := by decide +kernel
theorem dX8_attacksOn_99 : decode cX8_attacksOn 99 = .ok (.aload_n 0, 1) := by decide +kernel
theorem dX8_attacksOn_100 : decode cX8_attacksOn 100 = .ok (.aload_n 0, 1) := by decide +kernel
theorem dX8_attacksOn_101 : decode cX8_attacksOn 101 = .ok (.iload_n 1, 1) := by decide +kernel
theorem dX8_attacksOn_102 : decode cX8_attacksOn 102 = .ok (.iconst 1, 1) := by decide +kernel
theorem dX8_attacksOn_103 : decode cX8_attacksOn 103 = .ok (.iload_n 2, 1) := by decide +kernel
theorem dX8_attacksOn_104 : decode cX8_attacksOn 104 = .ok (.isub, 1) := by decide +kernel
theorem dX8_attacksOn_105 : decode cX8_attacksOn 105 = .ok (.iload 4, 2) := by decide +kernel
theorem dX8_attacksOn_107 : decode cX8_attacksOn 107 = .ok (.invokestatic 116, 3) := by decide +kernel
theorem dX8_attacksOn_110 : decode cX8_attacksOn 110 = .ok (.invokevirtual 107, 3) := by decide +kernel
theorem dX8_attacksOn_113 : decode cX8_attacksOn 113 = .ok (.invokevirtual 110, 3) := by decide +kernel
theorem dX8_attacksOn_116 : decode cX8_attacksOn 116 = .ok (.bipush 10, 2) := by decide +kernel
theorem dX8_attacksOn_118 : decode cX8_attacksOn 118 = .ok (.iload_n 2, 1) := by decide +kernel
theorem dX8_attacksOn_119 : decode cX8_attacksOn 119 = .ok (.imul, 1) := by decide +kernel
theorem dX8_attacksOn_120 : decode cX8_attacksOn 120 = .ok (.bipush 6, 2) := by decide +kernel
theorem dX8_attacksOn_122 : decode cX8_attacksOn 122 = .ok (.iadd, 1) := by decide +kernel
theorem dX8_attacksOn_123 : decode cX8_attacksOn 123 = .ok (.if_icmp .ne 7, 3) := by decide +kernel
theorem dX8_attacksOn_126 : decode cX8_attacksOn 126 = .ok (.iconst 1, 1) := by decide +kernel
theorem dX8_attacksOn_127 : decode cX8_attacksOn 127 = .ok (.goto 4, 3) := by decide +kernel
theorem dX8_attacksOn_130 : decode cX8_attacksOn 130 = .ok (.iconst 0, 1) := by decide +kernel
theorem dX8_attacksOn_131 : decode cX8_attacksOn 131 = .ok (.iadd, 1) := by decide +kernel
theorem dX8_attacksOn_132 : decode cX8_attacksOn 132 = .ok (.istore_n 3, 1) := by decide +kernel
theorem dX8_attacksOn_133 : decode cX8_attacksOn 133 = .ok (.iinc 4 1, 3) := by decide +kernel
theorem dX8_attacksOn_136 : decode cX8_attacksOn 136 = .ok (.goto (-44), 3) := by decide +kernel
theorem dX8_attacksOn_139 : decode cX8_attacksOn 139 = .ok (.iload_n 3, 1) := by decide +kernel
theorem dX8_attacksOn_140 : decode cX8_attacksOn 140 = .ok (.ireturn, 1) := by decide +kernel
theorem dX8_isChecked_0 : decode cX8_isChecked 0 = .ok (.aload_n 0, 1) := by decide +kernel
theorem dX8_isChecked_1 : decode cX8_isChecked 1 = .ok (.aload_n 0, 1) := by decide +kernel
theorem dX8_isChecked_2 : decode cX8_isChecked 2 = .ok (.iload_n 1, 1) := by decide +kernel
theorem dX8_isChecked_3 : decode cX8_isChecked 3 = .ok (.invokevirtual 119, 3) := by decide +kernel
theorem dX8_isChecked_6 : decode cX8_isChecked 6 = .ok (.iconst 1, 1) := by decide +kernel
theorem dX8_isChecked_7 : decode cX8_isChecked 7 = .ok (.iload_n 1, 1) := by decide +kernel
theorem dX8_isChecked_8 : decode cX8_isChecked 8 = .ok (.isub, 1) := by decide +kernel
theorem dX8_isChecked_9 : decode cX8_isChecked 9 = .ok (.invokevirtual 122, 3) := by decide +kernel
theorem dX8_isChecked_12 : decode cX8_isChecked 12 = .ok (.ifCond .le 7, 3) := by decide +kernel
theorem dX8_isChecked_15 : decode cX8_isChecked 15 = .ok (.iconst 1, 1) := by decide +kernel
theorem dX8_isChecked_16 : decode cX8_isChecked 16 = .ok (.goto 4, 3) := by decide +kernel
theorem dX8_isChecked_19 : decode cX8_isChecked 19 = .ok (.iconst 0, 1) := by decide +kernel
theorem dX8_isChecked_20 : decode cX8_isChecked 20 = .ok (.ireturn, 1) := by decide +kernel
theorem dX8_canBePlayed_0 : decode cX8_canBePlayed 0 = .ok (.aload_n 0, 1) := by decide +kernel
theorem dX8_canBePlayed_1 : decode cX8_canBePlayed 1 = .ok (.iconst 0, 1) := by decide +kernel
theorem dX8_canBePlayed_2 : decode cX8_canBePlayed 2 = .ok (.invokevirtual 119, 3) := by decide +kernel
theorem dX8_canBePlayed_5 : decode cX8_canBePlayed 5 = .ok (.iconst (-1), 1) := by decide +kernel
theorem dX8_canBePlayed_6 : decode cX8_canBePlayed 6 = .ok (.if_icmp .eq 29, 3) := by decide +kernel
theorem dX8_canBePlayed_9 : decode cX8_canBePlayed 9 = .ok (.aload_n 0, 1) := by decide +kernel
theorem dX8_canBePlayed_10 : decode cX8_canBePlayed 10 = .ok (.iconst 1, 1) := by decide +kernel
theorem dX8_canBePlayed_11 : decode cX8_canBePlayed 11 = .ok (.invokevirtual 119, 3) := by decide +kernel
theorem dX8_canBePlayed_14 : decode cX8_canBePlayed 14 = .ok (.iconst (-1), 1) := by decide +kernel
theorem dX8_canBePlayed_15 : decode cX8_canBePlayed 15 = .ok (.if_icmp .eq 20, 3) := by decide +kernel
theorem dX8_canBePlayed_18 : decode cX8_canBePlayed 18 = .ok (.aload_n 0, 1) := by decide +kernel
theorem dX8_canBePlayed_19 : decode cX8_canBePlayed 19 = .ok (.iconst 1, 1) := by decide +kernel
theorem dX8_canBePlayed_20 : decode cX8_canBePlayed 20 = .ok (.aload_n 0, 1) := by decide +kernel
theorem dX8_canBePlayed_21 : decode cX8_canBePlayed 21 = .ok (.getfield 125, 3) := by decide +kernel
theorem dX8_canBePlayed_24 : decode cX8_canBePlayed 24 = .ok (.isub, 1) := by decide +kernel
theorem dX8_canBePlayed_25 : decode cX8_canBePlayed 25 = .ok (.invokevirtual 128, 3) := by decide +kernel
theorem dX8_canBePlayed_28 : decode cX8_canBePlayed 28 = .ok (.ifCond .ne 7, 3) := by decide +kernel
theorem dX8_canBePlayed_31 : decode cX8_canBePlayed 31 = .ok (.iconst 1, 1) := by decide +kernel
theorem dX8_canBePlayed_32 : decode cX8_canBePlayed 32 = .ok (.goto 4, 3) := by decide +kernel
theorem dX8_canBePlayed_35 : decode cX8_canBePlayed 35 = .ok (.iconst 0, 1) := by decide +kernel
theorem dX8_canBePlayed_36 : decode cX8_canBePlayed 36 = .ok (.ireturn, 1) := by decide +kernel
theorem dX8_markSlides_0 : decode cX8_markSlides 0 = .ok (.iload_n 2, 1) := by decide +kernel
theorem dX8_markSlides_1 : decode cX8_markSlides 1 = .ok (.istore 4, 2) := by decide +kernel
theorem dX8_markSlides_3 : decode cX8_markSlides 3 = .ok (.iload 4, 2) := by decide +kernel
theorem dX8_markSlides_5 : decode cX8_markSlides 5 = .ok (.iload_n 3, 1) := by decide +kernel
theorem dX8_markSlides_6 : decode cX8_markSlides 6 = .ok (.if_icmp .ge 69, 3) := by decide +kernel
theorem dX8_markSlides_9 : decode cX8_markSlides 9 = .ok (.aload_n 0, 1) := by decide +kernel
theorem dX8_markSlides_10 : decode cX8_markSlides 10 = .ok (.iload_n 1, 1) := by decide +kernel
theorem dX8_markSlides_11 : decode cX8_markSlides 11 = .ok (.iload 4, 2) := by decide +kernel
theorem dX8_markSlides_13 : decode cX8_markSlides 13 = .ok (.invokevirtual 107, 3) := by decide +kernel
theorem dX8_markSlides_16 : decode cX8_markSlides 16 = .ok (.istore 5, 2) := by decide +kernel
theorem dX8_markSlides_18 : decode cX8_markSlides 18 = .ok (.iload 5, 2) := by decide +kernel
theorem dX8_markSlides_20 : decode cX8_markSlides 20 = .ok (.iconst (-1), 1) := by decide +kernel
theorem dX8_markSlides_21 : decode cX8_markSlides 21 = .ok (.if_icmp .eq 34, 3) := by decide +kernel
theorem dX8_markSlides_24 : decode cX8_markSlides 24 = .ok (.aload_n 0, 1) := by decide +kernel
theorem dX8_markSlides_25 : decode cX8_markSlides 25 = .ok (.getfield 32, 3) := by decide +kernel
theorem dX8_markSlides_28 : decode cX8_markSlides 28 = .ok (.iload 5, 2) := by decide +kernel
theorem dX8_markSlides_30 : decode cX8_markSlides 30 = .ok (.iaload, 1) := by decide +kernel
theorem dX8_markSlides_31 : decode cX8_markSlides 31 = .ok (.ifCond .ne 24, 3) := by decide +kernel
theorem dX8_markSlides_34 : decode cX8_markSlides 34 = .ok (.aload_n 0, 1) := by decide +kernel
theorem dX8_markSlides_35 : decode cX8_markSlides 35 = .ok (.getfield 41, 3) := by decide +kernel
theorem dX8_markSlides_38 : decode cX8_markSlides 38 = .ok (.iload 5, 2) := by decide +kernel
theorem dX8_markSlides_40 : decode cX8_markSlides 40 = .ok (.iconst 1, 1) := by decide +kernel
theorem dX8_markSlides_41 : decode cX8_markSlides 41 = .ok (.bastore, 1) := by decide +kernel
theorem dX8_markSlides_42 : decode cX8_markSlides 42 = .ok (.aload_n 0, 1) := by decide +kernel
theorem dX8_markSlides_43 : decode cX8_markSlides 43 = .ok (.iload 5, 2) := by decide +kernel
theorem dX8_markSlides_45 : decode cX8_markSlides 45 = .ok (.iload 4, 2) := by decide +kernel
theorem dX8_markSlides_47 : decode cX8_markSlides 47 = .ok (.invokevirtual 107, 3) := by decide +kernel
theorem dX8_markSlides_50 : decode cX8_markSlides 50 = .ok (.istore 5, 2) := by decide +kernel
theorem dX8_markSlides_52 : decode cX8_markSlides 52 = .ok (.goto (-34), 3) := by decide +kernel
theorem dX8_markSlides_55 : decode cX8_markSlides 55 = .ok (.iload 5, 2) := by decide +kernel
theorem dX8_markSlides_57 : decode cX8_markSlides 57 = .ok (.iconst (-1), 1) := by decide +kernel
theorem dX8_markSlides_58 : decode cX8_markSlides 58 = .ok (.if_icmp .eq 11, 3) := by decide +kernel
theorem dX8_markSlides_61 : decode cX8_markSlides 61 = .ok (.aload_n 0, 1) := by decide +kernel
theorem dX8_markSlides_62 : decode cX8_markSlides 62 = .ok (.getfield 41, 3) := by decide +kernel
theorem dX8_markSlides_65 : decode cX8_markSlides 65 = .ok (.iload 5, 2) := by decide +kernel
theorem dX8_markSlides_67 : decode cX8_markSlides 67 = .ok (.iconst 1, 1) := by decide +kernel
theorem dX8_markSlides_68 : decode cX8_markSlides 68 = .ok (.bastore, 1) := by decide +kernel
theorem dX8_markSlides_69 : decode cX8_markSlides 69 = .ok (.iinc 4 1, 3) := by decide +kernel
theorem dX8_markSlides_72 : decode cX8_markSlides 72 = .ok (.goto (-69), 3) := by decide +kernel
theorem dX8_markSlides_75 : decode cX8_markSlides 75 = .ok (.return_, 1) := by decide +kernel
theorem dX8_markPawn_0 : decode cX8_markPawn 0 = .ok (.aload_n 0, 1) := by decide +kernel
theorem dX8_markPawn_1 : decode cX8_markPawn 1 = .ok (.iload_n 1, 1) := by decide +kernel
theorem dX8_markPawn_2 : decode cX8_markPawn 2 = .ok (.iload_n 2, 1) := by decide +kernel
theorem dX8_markPawn_3 : decode cX8_markPawn 3 = .ok (.invokestatic 104, 3) := by decide +kernel
theorem dX8_markPawn_6 : decode cX8_markPawn 6 = .ok (.invokevirtual 107, 3) := by decide +kernel
theorem dX8_markPawn_9 : decode cX8_markPawn 9 = .ok (.istore_n 3, 1) := by decide +kernel
theorem dX8_markPawn_10 : decode cX8_markPawn 10 = .ok (.aload_n 0, 1) := by decide +kernel
theorem dX8_markPawn_11 : decode cX8_markPawn 11 = .ok (.iload_n 3, 1) := by decide +kernel
theorem dX8_markPawn_12 : decode cX8_markPawn 12 = .ok (.invokevirtual 110, 3) := by decide +kernel
theorem dX8_markPawn_15 : decode cX8_markPawn 15 = .ok (.ifCond .ne 47, 3) := by decide +kernel
theorem dX8_markPawn_18 : decode cX8_markPawn 18 = .ok (.aload_n 0, 1) := by decide +kernel
theorem dX8_markPawn_19 : decode cX8_markPawn 19 = .ok (.getfield 41, 3) := by decide +kernel
theorem dX8_markPawn_22 : decode cX8_markPawn 22 = .ok (.iload_n 3, 1) := by decide +kernel
theorem dX8_markPawn_23 : decode cX8_markPawn 23 = .ok (.iconst 1, 1) := by decide +kernel
theorem dX8_markPawn_24 : decode cX8_markPawn 24 = .ok (.bastore, 1) := by decide +kernel
theorem dX8_markPawn_25 : decode cX8_markPawn 25 = .ok (.aload_n 0, 1) := by decide +kernel
theorem dX8_markPawn_26 : decode cX8_markPawn 26 = .ok (.iload_n 3, 1) := by decide +kernel
theorem dX8_markPawn_27 : decode cX8_markPawn 27 = .ok (.iload_n 2, 1) := by decide +kernel
theorem dX8_markPawn_28 : decode cX8_markPawn 28 = .ok (.invokestatic 104, 3) := by decide +kernel
theorem dX8_markPawn_31 : decode cX8_markPawn 31 = .ok (.invokevirtual 107, 3) := by decide +kernel
theorem dX8_markPawn_34 : decode cX8_markPawn 34 = .ok (.istore 4, 2) := by decide +kernel
theorem dX8_markPawn_36 : decode cX8_markPawn 36 = .ok (.aload_n 0, 1) := by decide +kernel
theorem dX8_markPawn_37 : decode cX8_markPawn 37 = .ok (.iload_n 1, 1) := by decide +kernel
theorem dX8_markPawn_38 : decode cX8_markPawn 38 = .ok (.iload_n 2, 1) := by decide +kernel
theorem dX8_markPawn_39 : decode cX8_markPawn 39 = .ok (.invokevirtual 132, 3) := by decide +kernel
theorem dX8_markPawn_42 : decode cX8_markPawn 42 = .ok (.ifCond .eq 20, 3) := by decide +kernel
theorem dX8_markPawn_45 : decode cX8_markPawn 45 = .ok (.aload_n 0, 1) := by decide +kernel
theorem dX8_markPawn_46 : decode cX8_markPawn 46 = .ok (.iload 4, 2) := by decide +kernel
theorem dX8_markPawn_48 : decode cX8_markPawn 48 = .ok (.invokevirtual 110, 3) := by decide +kernel
theorem dX8_markPawn_51 : decode cX8_markPawn 51 = .ok (.ifCond .ne 11, 3) := by decide +kernel
theorem dX8_markPawn_54 : decode cX8_markPawn 54 = .ok (.aload_n 0, 1) := by decide +kernel
theorem dX8_markPawn_55 : decode cX8_markPawn 55 = .ok (.getfield 41, 3) := by decide +kernel
theorem dX8_markPawn_58 : decode cX8_markPawn 58 = .ok (.iload 4, 2) := by decide +kernel
theorem dX8_markPawn_60 : decode cX8_markPawn 60 = .ok (.iconst 1, 1) := by decide +kernel
theorem dX8_markPawn_61 : decode cX8_markPawn 61 = .ok (.bastore, 1) := by decide +kernel
theorem dX8_markPawn_62 : decode cX8_markPawn 62 = .ok (.iconst 0, 1) := by decide +kernel
theorem dX8_markPawn_63 : decode cX8_markPawn 63 = .ok (.istore 4, 2) := by decide +kernel
theorem dX8_markPawn_65 : decode cX8_markPawn 65 = .ok (.iload 4, 2) := by decide +kernel
theorem dX8_markPawn_67 : decode cX8_markPawn 67 = .ok (.iconst 2, 1) := by decide +kernel
theorem dX8_markPawn_68 : decode cX8_markPawn 68 = .ok (.if_icmp .ge 55, 3) := by decide +kernel
theorem dX8_markPawn_71 : decode cX8_markPawn 71 = .ok (.aload_n 0, 1) := by decide +kernel
theorem dX8_markPawn_72 : decode cX8_markPawn 72 = .ok (.iload_n 1, 1) := by decide +kernel
theorem dX8_markPawn_73 : decode cX8_markPawn 73 = .ok (.iload_n 2, 1) := by decide +kernel
theorem dX8_markPawn_74 : decode cX8_markPawn 74 = .ok (.iload 4, 2) := by decide +kernel
theorem dX8_markPawn_76 : decode cX8_markPawn 76 = .ok (.invokestatic 116, 3) := by decide +kernel
theorem dX8_markPawn_79 : decode cX8_markPawn 79 = .ok (.invokevirtual 107, 3) := by decide +kernel
theorem dX8_markPawn_82 : decode cX8_markPawn 82 = .ok (.istore 5, 2) := by decide +kernel
theorem dX8_markPawn_84 : decode cX8_markPawn 84 = .ok (.iload 5, 2) := by decide +kernel
theorem dX8_markPawn_86 : decode cX8_markPawn 86 = .ok (.iconst (-1), 1) := by decide +kernel
theorem dX8_markPawn_87 : decode cX8_markPawn 87 = .ok (.if_icmp .eq 30, 3) := by decide +kernel
theorem dX8_markPawn_90 : decode cX8_markPawn 90 = .ok (.aload_n 0, 1) := by decide +kernel
theorem dX8_markPawn_91 : decode cX8_markPawn 91 = .ok (.getfield 32, 3) := by decide +kernel
theorem dX8_markPawn_94 : decode cX8_markPawn 94 = .ok (.iload 5, 2) := by decide +kernel
theorem dX8_markPawn_96 : decode cX8_markPawn 96 = .ok (.iaload, 1) := by decide +kernel
theorem dX8_markPawn_97 : decode cX8_markPawn 97 = .ok (.ifCond .ne 12, 3) := by decide +kernel
theorem dX8_markPawn_100 : decode cX8_markPawn 100 = .ok (.iload 5, 2) := by decide +kernel
theorem dX8_markPawn_102 : decode cX8_markPawn 102 = .ok (.aload_n 0, 1) := by decide +kernel
theorem dX8_markPawn_103 : decode cX8_markPawn 103 = .ok (.getfield 35, 3) := by decide +kernel
theorem dX8_markPawn_106 : decode cX8_markPawn 106 = .ok (.if_icmp .ne 11, 3) := by decide +kernel
theorem dX8_markPawn_109 : decode cX8_markPawn 109 = .ok (.aload_n 0, 1) := by decide +kernel
theorem dX8_markPawn_110 : decode cX8_markPawn 110 = .ok (.getfield 41, 3) := by decide +kernel
theorem dX8_markPawn_113 : decode cX8_markPawn 113 = .ok (.iload 5, 2) := by decide +kernel
theorem dX8_markPawn_115 : decode cX8_markPawn 115 = .ok (.iconst 1, 1) := by decide +kernel
theorem dX8_markPawn_116 : decode cX8_markPawn 116 = .ok (.bastore, 1) := by decide +kernel
theorem dX8_markPawn_117 : decode cX8_markPawn 117 = .ok (.iinc 4 1, 3) := by decide +kernel
theorem dX8_markPawn_120 : decode cX8_markPawn 120 = .ok (.goto (-55), 3) := by decide +kernel
theorem dX8_markPawn_123 : decode cX8_markPawn 123 = .ok (.return_, 1) := by decide +kernel
theorem dX8_mark_0 : decode cX8_mark 0 = .ok (.iconst 0, 1) := by decide +kernel
theorem dX8_mark_1 : decode cX8_mark 1 = .ok (.istore_n 2, 1) := by decide +kernel
theorem dX8_mark_2 : decode cX8_mark 2 = .ok (.iload_n 2, 1) := by decide +kernel
theorem dX8_mark_3 : decode cX8_mark 3 = .ok (.bipush 91, 2) := by decide +kernel
theorem dX8_mark_5 : decode cX8_mark 5 = .ok (.if_icmp .ge 16, 3) := by decide +kernel
theorem dX8_mark_8 : decode cX8_mark 8 = .ok (.aload_n 0, 1) := by decide +kernel
theorem dX8_mark_9 : decode cX8_mark 9 = .ok (.getfield 41, 3) := by decide +kernel
theorem dX8_mark_12 : decode cX8_mark 12 = .ok (.iload_n 2, 1) := by decide +kernel
theorem dX8_mark_13 : decode cX8_mark 13 = .ok (.iconst 0, 1) := by decide +kernel
theorem dX8_mark_14 : decode cX8_mark 14 = .ok (.bastore, 1) := by decide +kernel
theorem dX8_mark_15 : decode cX8_mark 15 = .ok (.iinc 2 1, 3) := by decide +kernel
theorem dX8_mark_18 : decode cX8_mark 18 = .ok (.goto (-16), 3) := by decide +kernel
theorem dX8_mark_21 : decode cX8_mark 21 = .ok (.aload_n 0, 1) := by decide +kernel
theorem dX8_mark_22 : decode cX8_mark 22 = .ok (.getfield 32, 3) := by decide +kernel
theorem dX8_mark_25 : decode cX8_mark 25 = .ok (.iload_n 1, 1) := by decide +kernel
theorem dX8_mark_26 : decode cX8_mark 26 = .ok (.iaload, 1) := by decide +kernel
theorem dX8_mark_27 : decode cX8_mark 27 = .ok (.invokestatic 136, 3) := by decide +kernel
theorem dX8_mark_30 : decode cX8_mark 30 = .ok (.istore_n 2, 1) := by decide +kernel
theorem dX8_mark_31 : decode cX8_mark 31 = .ok (.iload_n 2, 1) := by decide +kernel
theorem dX8_mark_32 : decode cX8_mark 32 = .ok (.bipush 6, 2) := by decide +kernel
theorem dX8_mark_34 : decode cX8_mark 34 = .ok (.if_icmp .ne 17, 3) := by decide +kernel
theorem dX8_mark_37 : decode cX8_mark 37 = .ok (.aload_n 0, 1) := by decide +kernel
theorem dX8_mark_38 : decode cX8_mark 38 = .ok (.iload_n 1, 1) := by decide +kernel
theorem dX8_mark_39 : decode cX8_mark 39 = .ok (.aload_n 0, 1) := by decide +kernel
theorem dX8_mark_40 : decode cX8_mark 40 = .ok (.getfield 32, 3) := by decide +kernel
theorem dX8_mark_43 : decode cX8_mark 43 = .ok (.iload_n 1, 1) := by decide +kernel
theorem dX8_mark_44 : decode cX8_mark 44 = .ok (.iaload, 1) := by decide +kernel
theorem dX8_mark_45 : decode cX8_mark 45 = .ok (.invokestatic 139, 3) := by decide +kernel
theorem dX8_mark_48 : decode cX8_mark 48 = .ok (.invokevirtual 142, 3) := by decide +kernel
theorem dX8_mark_51 : decode cX8_mark 51 = .ok (.iload_n 2, 1) := by decide +kernel
theorem dX8_mark_52 : decode cX8_mark 52 = .ok (.iconst 2, 1) := by decide +kernel
theorem dX8_mark_53 : decode cX8_mark 53 = .ok (.if_icmp .eq 8, 3) := by decide +kernel
theorem dX8_mark_56 : decode cX8_mark 56 = .ok (.iload_n 2, 1) := by decide +kernel
theorem dX8_mark_57 : decode cX8_mark 57 = .ok (.iconst 3, 1) := by decide +kernel
theorem dX8_mark_58 : decode cX8_mark 58 = .ok (.if_icmp .ne 11, 3) := by decide +kernel
theorem dX8_mark_61 : decode cX8_mark 61 = .ok (.aload_n 0, 1) := by decide +kernel
theorem dX8_mark_62 : decode cX8_mark 62 = .ok (.iload_n 1, 1) := by decide +kernel
theorem dX8_mark_63 : decode cX8_mark 63 = .ok (.iconst 0, 1) := by decide +kernel
theorem dX8_mark_64 : decode cX8_mark 64 = .ok (.bipush 6, 2) := by decide +kernel
theorem dX8_mark_66 : decode cX8_mark 66 = .ok (.invokevirtual 146, 3) := by decide +kernel
theorem dX8_mark_69 : decode cX8_mark 69 = .ok (.iload_n 2, 1) := by decide +kernel
theorem dX8_mark_70 : decode cX8_mark 70 = .ok (.iconst 2, 1) := by decide +kernel
theorem dX8_mark_71 : decode cX8_mark 71 = .ok (.if_icmp .eq 8, 3) := by decide +kernel
theorem dX8_mark_74 : decode cX8_mark 74 = .ok (.iload_n 2, 1) := by decide +kernel
theorem dX8_mark_75 : decode cX8_mark 75 = .ok (.iconst 4, 1) := by decide +kernel
theorem dX8_mark_76 : decode cX8_mark 76 = .ok (.if_icmp .ne 12, 3) := by decide +kernel
theorem dX8_mark_79 : decode cX8_mark 79 = .ok (.aload_n 0, 1) := by decide +kernel
theorem dX8_mark_80 : decode cX8_mark 80 = .ok (.iload_n 1, 1) := by decide +kernel
theorem dX8_mark_81 : decode cX8_mark 81 = .ok (.bipush 6, 2) := by decide +kernel
theorem dX8_mark_83 : decode cX8_mark 83 = .ok (.bipush 12, 2) := by decide +kernel
theorem dX8_mark_85 : decode cX8_mark 85 = .ok (.invokevirtual 146, 3) := by decide +kernel
theorem dX8_mark_88 : decode cX8_mark 88 = .ok (.iconst 0, 1) := by decide +kernel
theorem dX8_mark_89 : decode cX8_mark 89 = .ok (.istore_n 3, 1) := by decide +kernel
theorem dX8_mark_90 : decode cX8_mark 90 = .ok (.iload_n 3, 1) := by decide +kernel
theorem dX8_mark_91 : decode cX8_mark 91 = .ok (.bipush 12, 2) := by decide +kernel
theorem dX8_mark_93 : decode cX8_mark 93 = .ok (.if_icmp .ge 64, 3) := by decide +kernel
theorem dX8_mark_96 : decode cX8_mark 96 = .ok (.iload_n 2, 1) := by decide +kernel
theorem dX8_mark_97 : decode cX8_mark 97 = .ok (.iconst 1, 1) := by decide +kernel
theorem dX8_mark_98 : decode cX8_mark 98 = .ok (.if_icmp .ne 17, 3) := by decide +kernel
theorem dX8_mark_101 : decode cX8_mark 101 = .ok (.aload_n 0, 1) := by decide +kernel
theorem dX8_mark_102 : decode cX8_mark 102 = .ok (.getfield 26, 3) := by decide +kernel
theorem dX8_mark_105 : decode cX8_mark 105 = .ok (.bipush 12, 2) := by decide +kernel
theorem dX8_mark_107 : decode cX8_mark 107 = .ok (.iload_n 1, 1) := by decide +kernel
theorem dX8_mark_108 : decode cX8_mark 108 = .ok (.imul, 1) := by decide +kernel
theorem dX8_mark_109 : decode cX8_mark 109 = .ok (.iload_n 3, 1) := by decide +kernel
theorem dX8_mark_110 : decode cX8_mark 110 = .ok (.iadd, 1) := by decide +kernel
theorem dX8_mark_111 : decode cX8_mark 111 = .ok (.iaload, 1) := by decide +kernel
theorem dX8_mark_112 : decode cX8_mark 112 = .ok (.goto 23, 3) := by decide +kernel
theorem dX8_mark_115 : decode cX8_mark 115 = .ok (.iload_n 2, 1) := by decide +kernel
theorem dX8_mark_116 : decode cX8_mark 116 = .ok (.iconst 5, 1) := by decide +kernel
theorem dX8_mark_117 : decode cX8_mark 117 = .ok (.if_icmp .ne 17, 3) := by decide +kernel
theorem dX8_mark_120 : decode cX8_mark 120 = .ok (.aload_n 0, 1) := by decide +kernel
theorem dX8_mark_121 : decode cX8_mark 121 = .ok (.getfield 29, 3) := by decide +kernel
theorem dX8_mark_124 : decode cX8_mark 124 = .ok (.bipush 12, 2) := by decide +kernel
theorem dX8_mark_126 : decode cX8_mark 126 = .ok (.iload_n 1, 1) := by decide +kernel
theorem dX8_mark_127 : decode cX8_mark 127 = .ok (.imul, 1) := by decide +kernel
theorem dX8_mark_128 : decode cX8_mark 128 = .ok (.iload_n 3, 1) := by decide +kernel
theorem dX8_mark_129 : decode cX8_mark 129 = .ok (.iadd, 1) := by decide +kernel
theorem dX8_mark_130 : decode cX8_mark 130 = .ok (.iaload, 1) := by decide +kernel
theorem dX8_mark_131 : decode cX8_mark 131 = .ok (.goto 4, 3) := by decide +kernel
theorem dX8_mark_134 : decode cX8_mark 134 = .ok (.iconst (-1), 1) := by decide +kernel
theorem dX8_mark_135 : decode cX8_mark 135 = .ok (.istore 4, 2) := by decide +kernel
theorem dX8_mark_137 : decode cX8_mark 137 = .ok (.iload 4, 2) := by decide +kernel
theorem dX8_mark_139 : decode cX8_mark 139 = .ok (.iconst (-1), 1) := by decide +kernel
theorem dX8_mark_140 : decode cX8_mark 140 = .ok (.if_icmp .eq 11, 3) := by decide +kernel
theorem dX8_mark_143 : decode cX8_mark 143 = .ok (.aload_n 0, 1) := by decide +kernel
theorem dX8_mark_144 : decode cX8_mark 144 = .ok (.getfield 41, 3) := by decide +kernel
theorem dX8_mark_147 : decode cX8_mark 147 = .ok (.iload 4, 2) := by decide +kernel
theorem dX8_mark_149 : decode cX8_mark 149 = .ok (.iconst 1, 1) := by decide +kernel
theorem dX8_mark_150 : decode cX8_mark 150 = .ok (.bastore, 1) := by decide +kernel
theorem dX8_mark_151 : decode cX8_mark 151 = .ok (.iinc 3 1, 3) := by decide +kernel
theorem dX8_mark_154 : decode cX8_mark 154 = .ok (.goto (-64), 3) := by decide +kernel
theorem dX8_mark_157 : decode cX8_mark 157 = .ok (.return_, 1) := by decide +kernel
theorem dX8_isPassing_0 : decode cX8_isPassing 0 = .ok (.aload_n 0, 1) := by decide +kernel
theorem dX8_isPassing_1 : decode cX8_isPassing 1 = .ok (.getfield 32, 3) := by decide +kernel
theorem dX8_isPassing_4 : decode cX8_isPassing 4 = .ok (.iload_n 1, 1) := by decide +kernel
theorem dX8_isPassing_5 : decode cX8_isPassing 5 = .ok (.iaload, 1) := by decide +kernel
theorem dX8_isPassing_6 : decode cX8_isPassing 6 = .ok (.invokestatic 136, 3) := by decide +kernel
theorem dX8_isPassing_9 : decode cX8_isPassing 9 = .ok (.bipush 6, 2) := by decide +kernel
theorem dX8_isPassing_11 : decode cX8_isPassing 11 = .ok (.if_icmp .ne 39, 3) := by decide +kernel
theorem dX8_isPassing_14 : decode cX8_isPassing 14 = .ok (.iload_n 2, 1) := by decide +kernel
theorem dX8_isPassing_15 : decode cX8_isPassing 15 = .ok (.aload_n 0, 1) := by decide +kernel
theorem dX8_isPassing_16 : decode cX8_isPassing 16 = .ok (.getfield 35, 3) := by decide +kernel
theorem dX8_isPassing_19 : decode cX8_isPassing 19 = .ok (.if_icmp .ne 31, 3) := by decide +kernel
theorem dX8_isPassing_22 : decode cX8_isPassing 22 = .ok (.aload_n 0, 1) := by decide +kernel
theorem dX8_isPassing_23 : decode cX8_isPassing 23 = .ok (.getfield 32, 3) := by decide +kernel
theorem dX8_isPassing_26 : decode cX8_isPassing 26 = .ok (.iload_n 2, 1) := by decide +kernel
theorem dX8_isPassing_27 : decode cX8_isPassing 27 = .ok (.iaload, 1) := by decide +kernel
theorem dX8_isPassing_28 : decode cX8_isPassing 28 = .ok (.ifCond .ne 22, 3) := by decide +kernel
theorem dX8_isPassing_31 : decode cX8_isPassing 31 = .ok (.aload_n 0, 1) := by decide +kernel
theorem dX8_isPassing_32 : decode cX8_isPassing 32 = .ok (.getfield 17, 3) := by decide +kernel
theorem dX8_isPassing_35 : decode cX8_isPassing 35 = .ok (.iload_n 1, 1) := by decide +kernel
theorem dX8_isPassing_36 : decode cX8_isPassing 36 = .ok (.iaload, 1) := by decide +kernel
theorem dX8_isPassing_37 : decode cX8_isPassing 37 = .ok (.aload_n 0, 1) := by decide +kernel
theorem dX8_isPassing_38 : decode cX8_isPassing 38 = .ok (.getfield 17, 3) := by decide +kernel
theorem dX8_isPassing_41 : decode cX8_isPassing 41 = .ok (.iload_n 2, 1) := by decide +kernel
theorem dX8_isPassing_42 : decode cX8_isPassing 42 = .ok (.iaload, 1) := by decide +kernel
theorem dX8_isPassing_43 : decode cX8_isPassing 43 = .ok (.if_icmp .eq 7, 3) := by decide +kernel
theorem dX8_isPassing_46 : decode cX8_isPassing 46 = .ok (.iconst 1, 1) := by decide +kernel
theorem dX8_isPassing_47 : decode cX8_isPassing 47 = .ok (.goto 4, 3) := by decide +kernel
theorem dX8_isPassing_50 : decode cX8_isPassing 50 = .ok (.iconst 0, 1) := by decide +kernel
theorem dX8_isPassing_51 : decode cX8_isPassing 51 = .ok (.ireturn, 1) := by decide +kernel
theorem dX8_becomes_0 : decode cX8_becomes 0 = .ok (.aload_n 0, 1) := by decide +kernel
theorem dX8_becomes_1 : decode cX8_becomes 1 = .ok (.getfield 32, 3) := by decide +kernel
theorem dX8_becomes_4 : decode cX8_becomes 4 = .ok (.iload_n 1, 1) := by decide +kernel
theorem dX8_becomes_5 : decode cX8_becomes 5 = .ok (.iaload, 1) := by decide +kernel
theorem dX8_becomes_6 : decode cX8_becomes 6 = .ok (.invokestatic 136, 3) := by decide +kernel
theorem dX8_becomes_9 : decode cX8_becomes 9 = .ok (.bipush 6, 2) := by decide +kernel
theorem dX8_becomes_11 : decode cX8_becomes 11 = .ok (.if_icmp .ne 24, 3) := by decide +kernel
theorem dX8_becomes_14 : decode cX8_becomes 14 = .ok (.aload_n 0, 1) := by decide +kernel
theorem dX8_becomes_15 : decode cX8_becomes 15 = .ok (.iload_n 2, 1) := by decide +kernel
theorem dX8_becomes_16 : decode cX8_becomes 16 = .ok (.aload_n 0, 1) := by decide +kernel
theorem dX8_becomes_17 : decode cX8_becomes 17 = .ok (.getfield 32, 3) := by decide +kernel
theorem dX8_becomes_20 : decode cX8_becomes 20 = .ok (.iload_n 1, 1) := by decide +kernel
theorem dX8_becomes_21 : decode cX8_becomes 21 = .ok (.iaload, 1) := by decide +kernel
theorem dX8_becomes_22 : decode cX8_becomes 22 = .ok (.invokestatic 139, 3) := by decide +kernel
theorem dX8_becomes_25 : decode cX8_becomes 25 = .ok (.invokevirtual 150, 3) := by decide +kernel
theorem dX8_becomes_28 : decode cX8_becomes 28 = .ok (.ifCond .eq 7, 3) := by decide +kernel
theorem dX8_becomes_31 : decode cX8_becomes 31 = .ok (.iconst 1, 1) := by decide +kernel
theorem dX8_becomes_32 : decode cX8_becomes 32 = .ok (.goto 4, 3) := by decide +kernel
theorem dX8_becomes_35 : decode cX8_becomes 35 = .ok (.iconst 0, 1) := by decide +kernel
theorem dX8_becomes_36 : decode cX8_becomes 36 = .ok (.ireturn, 1) := by decide +kernel
theorem dX8_note_0 : decode cX8_note 0 = .ok (.aload_n 0, 1) := by decide +kernel
theorem dX8_note_1 : decode cX8_note 1 = .ok (.getfield 153, 3) := by decide +kernel
theorem dX8_note_4 : decode cX8_note 4 = .ok (.iconst 1, 1) := by decide +kernel
theorem dX8_note_5 : decode cX8_note 5 = .ok (.iadd, 1) := by decide +kernel
theorem dX8_note_6 : decode cX8_note 6 = .ok (.bipush 7, 2) := by decide +kernel
theorem dX8_note_8 : decode cX8_note 8 = .ok (.imul, 1) := by decide +kernel
theorem dX8_note_9 : decode cX8_note 9 = .ok (.aload_n 0, 1) := by decide +kernel
theorem dX8_note_10 : decode cX8_note 10 = .ok (.getfield 38, 3) := by decide +kernel
theorem dX8_note_13 : decode cX8_note 13 = .ok (.arraylength, 1) := by decide +kernel
theorem dX8_note_14 : decode cX8_note 14 = .ok (.if_icmp .le 36, 3) := by decide +kernel
theorem dX8_note_17 : decode cX8_note 17 = .ok (.iconst 2, 1) := by decide +kernel
theorem dX8_note_18 : decode cX8_note 18 = .ok (.aload_n 0, 1) := by decide +kernel
theorem dX8_note_19 : decode cX8_note 19 = .ok (.getfield 38, 3) := by decide +kernel
theorem dX8_note_22 : decode cX8_note 22 = .ok (.arraylength, 1) := by decide +kernel
theorem dX8_note_23 : decode cX8_note 23 = .ok (.imul, 1) := by decide +kernel
theorem dX8_note_24 : decode cX8_note 24 = .ok (.newarray .int, 2) := by decide +kernel
theorem dX8_note_26 : decode cX8_note 26 = .ok (.astore 5, 2) := by decide +kernel
theorem dX8_note_28 : decode cX8_note 28 = .ok (.aload_n 0, 1) := by decide +kernel
theorem dX8_note_29 : decode cX8_note 29 = .ok (.getfield 38, 3) := by decide +kernel
theorem dX8_note_32 : decode cX8_note 32 = .ok (.iconst 0, 1) := by decide +kernel
theorem dX8_note_33 : decode cX8_note 33 = .ok (.aload 5, 2) := by decide +kernel
theorem dX8_note_35 : decode cX8_note 35 = .ok (.iconst 0, 1) := by decide +kernel
theorem dX8_note_36 : decode cX8_note 36 = .ok (.aload_n 0, 1) := by decide +kernel
theorem dX8_note_37 : decode cX8_note 37 = .ok (.getfield 38, 3) := by decide +kernel
theorem dX8_note_40 : decode cX8_note 40 = .ok (.arraylength, 1) := by decide +kernel
theorem dX8_note_41 : decode cX8_note 41 = .ok (.invokestatic 156, 3) := by decide +kernel
theorem dX8_note_44 : decode cX8_note 44 = .ok (.aload_n 0, 1) := by decide +kernel
theorem dX8_note_45 : decode cX8_note 45 = .ok (.aload 5, 2) := by decide +kernel
theorem dX8_note_47 : decode cX8_note 47 = .ok (.putfield 38, 3) := by decide +kernel
theorem dX8_note_50 : decode cX8_note 50 = .ok (.aload_n 0, 1) := by decide +kernel
theorem dX8_note_51 : decode cX8_note 51 = .ok (.getfield 153, 3) := by decide +kernel
theorem dX8_note_54 : decode cX8_note 54 = .ok (.bipush 7, 2) := by decide +kernel
theorem dX8_note_56 : decode cX8_note 56 = .ok (.imul, 1) := by decide +kernel
theorem dX8_note_57 : decode cX8_note 57 = .ok (.istore 5, 2) := by decide +kernel
theorem dX8_note_59 : decode cX8_note 59 = .ok (.aload_n 0, 1) := by decide +kernel
theorem dX8_note_60 : decode cX8_note 60 = .ok (.getfield 38, 3) := by decide +kernel
theorem dX8_note_63 : decode cX8_note 63 = .ok (.iload 5, 2) := by decide +kernel
theorem dX8_note_65 : decode cX8_note 65 = .ok (.iload_n 1, 1) := by decide +kernel
theorem dX8_note_66 : decode cX8_note 66 = .ok (.iastore, 1) := by decide +kernel
theorem dX8_note_67 : decode cX8_note 67 = .ok (.aload_n 0, 1) := by decide +kernel
theorem dX8_note_68 : decode cX8_note 68 = .ok (.getfield 38, 3) := by decide +kernel
theorem dX8_note_71 : decode cX8_note 71 = .ok (.iload 5, 2) := by decide +kernel
theorem dX8_note_73 : decode cX8_note 73 = .ok (.iconst 1, 1) := by decide +kernel
theorem dX8_note_74 : decode cX8_note 74 = .ok (.iadd, 1) := by decide +kernel
theorem dX8_note_75 : decode cX8_note 75 = .ok (.iload_n 2, 1) := by decide +kernel
theorem dX8_note_76 : decode cX8_note 76 = .ok (.iastore, 1) := by decide +kernel
theorem dX8_note_77 : decode cX8_note 77 = .ok (.aload_n 0, 1) := by decide +kernel
theorem dX8_note_78 : decode cX8_note 78 = .ok (.getfield 38, 3) := by decide +kernel
theorem dX8_note_81 : decode cX8_note 81 = .ok (.iload 5, 2) := by decide +kernel
theorem dX8_note_83 : decode cX8_note 83 = .ok (.iconst 2, 1) := by decide +kernel
theorem dX8_note_84 : decode cX8_note 84 = .ok (.iadd, 1) := by decide +kernel
theorem dX8_note_85 : decode cX8_note 85 = .ok (.aload_n 0, 1) := by decide +kernel
theorem dX8_note_86 : decode cX8_note 86 = .ok (.getfield 32, 3) := by decide +kernel
theorem dX8_note_89 : decode cX8_note 89 = .ok (.iload_n 1, 1) := by decide +kernel
theorem dX8_note_90 : decode cX8_note 90 = .ok (.iaload, 1) := by decide +kernel
theorem dX8_note_91 : decode cX8_note 91 = .ok (.iastore, 1) := by decide +kernel
theorem dX8_note_92 : decode cX8_note 92 = .ok (.aload_n 0, 1) := by decide +kernel
theorem dX8_note_93 : decode cX8_note 93 = .ok (.getfield 38, 3) := by decide +kernel
theorem dX8_note_96 : decode cX8_note 96 = .ok (.iload 5, 2) := by decide +kernel
theorem dX8_note_98 : decode cX8_note 98 = .ok (.iconst 3, 1) := by decide +kernel
theorem dX8_note_99 : decode cX8_note 99 = .ok (.iadd, 1) := by decide +kernel
theorem dX8_note_100 : decode cX8_note 100 = .ok (.iload_n 3, 1) := by decide +kernel
theorem dX8_note_101 : decode cX8_note 101 = .ok (.iastore, 1) := by decide +kernel
theorem dX8_note_102 : decode cX8_note 102 = .ok (.aload_n 0, 1) := by decide +kernel
theorem dX8_note_103 : decode cX8_note 103 = .ok (.getfield 38, 3) := by decide +kernel
theorem dX8_note_106 : decode cX8_note 106 = .ok (.iload 5, 2) := by decide +kernel
theorem dX8_note_108 : decode cX8_note 108 = .ok (.iconst 4, 1) := by decide +kernel
theorem dX8_note_109 : decode cX8_note 109 = .ok (.iadd, 1) := by decide +kernel
theorem dX8_note_110 : decode cX8_note 110 = .ok (.iload 4, 2) := by decide +kernel
theorem dX8_note_112 : decode cX8_note 112 = .ok (.iastore, 1) := by decide +kernel
theorem dX8_note_113 : decode cX8_note 113 = .ok (.aload_n 0, 1) := by decide +kernel
theorem dX8_note_114 : decode cX8_note 114 = .ok (.getfield 38, 3) := by decide +kernel
theorem dX8_note_117 : decode cX8_note 117 = .ok (.iload 5, 2) := by decide +kernel
theorem dX8_note_119 : decode cX8_note 119 = .ok (.iconst 5, 1) := by decide +kernel
theorem dX8_note_120 : decode cX8_note 120 = .ok (.iadd, 1) := by decide +kernel
theorem dX8_note_121 : decode cX8_note 121 = .ok (.aload_n 0, 1) := by decide +kernel
theorem dX8_note_122 : decode cX8_note 122 = .ok (.getfield 35, 3) := by decide +kernel
theorem dX8_note_125 : decode cX8_note 125 = .ok (.iastore, 1) := by decide +kernel
theorem dX8_note_126 : decode cX8_note 126 = .ok (.aload_n 0, 1) := by decide +kernel
theorem dX8_note_127 : decode cX8_note 127 = .ok (.getfield 38, 3) := by decide +kernel
theorem dX8_note_130 : decode cX8_note 130 = .ok (.iload 5, 2) := by decide +kernel
theorem dX8_note_132 : decode cX8_note 132 = .ok (.bipush 6, 2) := by decide +kernel
theorem dX8_note_134 : decode cX8_note 134 = .ok (.iadd, 1) := by decide +kernel
theorem dX8_note_135 : decode cX8_note 135 = .ok (.aload_n 0, 1) := by decide +kernel
theorem dX8_note_136 : decode cX8_note 136 = .ok (.getfield 162, 3) := by decide +kernel
theorem dX8_note_139 : decode cX8_note 139 = .ok (.iastore, 1) := by decide +kernel
theorem dX8_note_140 : decode cX8_note 140 = .ok (.aload_n 0, 1) := by decide +kernel
theorem dX8_note_141 : decode cX8_note 141 = .ok (.dup, 1) := by decide +kernel
theorem dX8_note_142 : decode cX8_note 142 = .ok (.getfield 153, 3) := by decide +kernel
theorem dX8_note_145 : decode cX8_note 145 = .ok (.iconst 1, 1) := by decide +kernel
theorem dX8_note_146 : decode cX8_note 146 = .ok (.iadd, 1) := by decide +kernel
theorem dX8_note_147 : decode cX8_note 147 = .ok (.putfield 153, 3) := by decide +kernel
theorem dX8_note_150 : decode cX8_note 150 = .ok (.return_, 1) := by decide +kernel
theorem dX8_make_0 : decode cX8_make 0 = .ok (.aload_n 0, 1) := by decide +kernel
theorem dX8_make_1 : decode cX8_make 1 = .ok (.getfield 32, 3) := by decide +kernel
theorem dX8_make_4 : decode cX8_make 4 = .ok (.iload_n 1, 1) := by decide +kernel
theorem dX8_make_5 : decode cX8_make 5 = .ok (.iaload, 1) := by decide +kernel
theorem dX8_make_6 : decode cX8_make 6 = .ok (.istore 4, 2) := by decide +kernel
theorem dX8_make_8 : decode cX8_make 8 = .ok (.iload 4, 2) := by decide +kernel
theorem dX8_make_10 : decode cX8_make 10 = .ok (.invokestatic 139, 3) := by decide +kernel
theorem dX8_make_13 : decode cX8_make 13 = .ok (.istore 5, 2) := by decide +kernel
theorem dX8_make_15 : decode cX8_make 15 = .ok (.aload_n 0, 1) := by decide +kernel
theorem dX8_make_16 : decode cX8_make 16 = .ok (.iload_n 1, 1) := by decide +kernel
theorem dX8_make_17 : decode cX8_make 17 = .ok (.iload_n 2, 1) := by decide +kernel
theorem dX8_make_18 : decode cX8_make 18 = .ok (.invokevirtual 165, 3) := by decide +kernel
theorem dX8_make_21 : decode cX8_make 21 = .ok (.ifCond .eq 18, 3) := by decide +kernel
theorem dX8_make_24 : decode cX8_make 24 = .ok (.aload_n 0, 1) := by decide +kernel
theorem dX8_make_25 : decode cX8_make 25 = .ok (.iload_n 2, 1) := by decide +kernel
theorem dX8_make_26 : decode cX8_make 26 = .ok (.iconst 1, 1) := by decide +kernel
theorem dX8_make_27 : decode cX8_make 27 = .ok (.iload 5, 2) := by decide +kernel
theorem dX8_make_29 : decode cX8_make 29 = .ok (.isub, 1) := by decide +kernel
theorem dX8_make_30 : decode cX8_make 30 = .ok (.invokestatic 104, 3) := by decide +kernel
theorem dX8_make_33 : decode cX8_make 33 = .ok (.invokevirtual 107, 3) := by decide +kernel
theorem dX8_make_36 : decode cX8_make 36 = .ok (.goto 4, 3) := by decide +kernel
theorem dX8_make_39 : decode cX8_make 39 = .ok (.iload_n 2, 1) := by decide +kernel
theorem dX8_make_40 : decode cX8_make 40 = .ok (.istore 6, 2) := by decide +kernel
theorem dX8_make_42 : decode cX8_make 42 = .ok (.aload_n 0, 1) := by decide +kernel
theorem dX8_make_43 : decode cX8_make 43 = .ok (.getfield 32, 3) := by decide +kernel
theorem dX8_make_46 : decode cX8_make 46 = .ok (.iload 6, 2) := by decide +kernel
theorem dX8_make_48 : decode cX8_make 48 = .ok (.iaload, 1) := by decide +kernel
theorem dX8_make_49 : decode cX8_make 49 = .ok (.istore 7, 2) := by decide +kernel
theorem dX8_make_51 : decode cX8_make 51 = .ok (.aload_n 0, 1) := by decide +kernel
theorem dX8_make_52 : decode cX8_make 52 = .ok (.iload_n 1, 1) := by decide +kernel
theorem dX8_make_53 : decode cX8_make 53 = .ok (.iload_n 2, 1) := by decide +kernel
theorem dX8_make_54 : decode cX8_make 54 = .ok (.invokevirtual 168, 3) := by decide +kernel
theorem dX8_make_57 : decode cX8_make 57 = .ok (.ifCond .eq 13, 3) := by decide +kernel
theorem dX8_make_60 : decode cX8_make 60 = .ok (.bipush 10, 2) := by decide +kernel
theorem dX8_make_62 : decode cX8_make 62 = .ok (.iload 5, 2) := by decide +kernel
theorem dX8_make_64 : decode cX8_make 64 = .ok (.imul, 1) := by decide +kernel
theorem dX8_make_65 : decode cX8_make 65 = .ok (.iload_n 3, 1) := by decide +kernel
theorem dX8_make_66 : decode cX8_make 66 = .ok (.iadd, 1) := by decide +kernel
theorem dX8_make_67 : decode cX8_make 67 = .ok (.goto 5, 3) := by decide +kernel
theorem dX8_make_70 : decode cX8_make 70 = .ok (.iload 4, 2) := by decide +kernel
theorem dX8_make_72 : decode cX8_make 72 = .ok (.istore 8, 2) := by decide +kernel
theorem dX8_make_74 : decode cX8_make 74 = .ok (.aload_n 0, 1) := by decide +kernel
theorem dX8_make_75 : decode cX8_make 75 = .ok (.iload_n 1, 1) := by decide +kernel
theorem dX8_make_76 : decode cX8_make 76 = .ok (.iload_n 2, 1) := by decide +kernel
theorem dX8_make_77 : decode cX8_make 77 = .ok (.iload 7, 2) := by decide +kernel
theorem dX8_make_79 : decode cX8_make 79 = .ok (.iload 6, 2) := by decide +kernel
theorem dX8_make_81 : decode cX8_make 81 = .ok (.invokevirtual 171, 3) := by decide +kernel
theorem dX8_make_84 : decode cX8_make 84 = .ok (.iload 4, 2) := by decide +kernel
theorem dX8_make_86 : decode cX8_make 86 = .ok (.invokestatic 136, 3) := by decide +kernel
theorem dX8_make_89 : decode cX8_make 89 = .ok (.bipush 6, 2) := by decide +kernel
theorem dX8_make_91 : decode cX8_make 91 = .ok (.if_icmp .ne 7, 3) := by decide +kernel
theorem dX8_make_94 : decode cX8_make 94 = .ok (.iconst 1, 1) := by decide +kernel
theorem dX8_make_95 : decode cX8_make 95 = .ok (.goto 4, 3) := by decide +kernel
theorem dX8_make_98 : decode cX8_make 98 = .ok (.iconst 0, 1) := by decide +kernel
theorem dX8_make_99 : decode cX8_make 99 = .ok (.istore 9, 2) := by decide +kernel
theorem dX8_make_101 : decode cX8_make 101 = .ok (.iload 9, 2) := by decide +kernel
theorem dX8_make_103 : decode cX8_make 103 = .ok (.ifCond .eq 42, 3) := by decide +kernel
theorem dX8_make_106 : decode cX8_make 106 = .ok (.aload_n 0, 1) := by decide +kernel
theorem dX8_make_107 : decode cX8_make 107 = .ok (.getfield 17, 3) := by decide +kernel
theorem dX8_make_110 : decode cX8_make 110 = .ok (.iload_n 1, 1) := by decide +kernel
theorem dX8_make_111 : decode cX8_make 111 = .ok (.iaload, 1) := by decide +kernel
theorem dX8_make_112 : decode cX8_make 112 = .ok (.aload_n 0, 1) := by decide +kernel
theorem dX8_make_113 : decode cX8_make 113 = .ok (.getfield 17, 3) := by decide +kernel
theorem dX8_make_116 : decode cX8_make 116 = .ok (.iload_n 2, 1) := by decide +kernel
theorem dX8_make_117 : decode cX8_make 117 = .ok (.iaload, 1) := by decide +kernel
theorem dX8_make_118 : decode cX8_make 118 = .ok (.if_icmp .ne 27, 3) := by decide +kernel
theorem dX8_make_121 : decode cX8_make 121 = .ok (.aload_n 0, 1) := by decide +kernel
theorem dX8_make_122 : decode cX8_make 122 = .ok (.getfield 20, 3) := by decide +kernel
theorem dX8_make_125 : decode cX8_make 125 = .ok (.iload_n 2, 1) := by decide +kernel
theorem dX8_make_126 : decode cX8_make 126 = .ok (.iaload, 1) := by decide +kernel
theorem dX8_make_127 : decode cX8_make 127 = .ok (.aload_n 0, 1) := by decide +kernel
theorem dX8_make_128 : decode cX8_make 128 = .ok (.getfield 20, 3) := by decide +kernel
theorem dX8_make_131 : decode cX8_make 131 = .ok (.iload_n 1, 1) := by decide +kernel
theorem dX8_make_132 : decode cX8_make 132 = .ok (.iaload, 1) := by decide +kernel
theorem dX8_make_133 : decode cX8_make 133 = .ok (.isub, 1) := by decide +kernel
theorem dX8_make_134 : decode cX8_make 134 = .ok (.invokestatic 98, 3) := by decide +kernel
theorem dX8_make_137 : decode cX8_make 137 = .ok (.iconst 2, 1) := by decide +kernel
theorem dX8_make_138 : decode cX8_make 138 = .ok (.if_icmp .ne 7, 3) := by decide +kernel
theorem dX8_make_141 : decode cX8_make 141 = .ok (.iconst 1, 1) := by decide +kernel
theorem dX8_make_142 : decode cX8_make 142 = .ok (.goto 4, 3) := by decide +kernel
theorem dX8_make_145 : decode cX8_make 145 = .ok (.iconst 0, 1) := by decide +kernel
theorem dX8_make_146 : decode cX8_make 146 = .ok (.istore 10, 2) := by decide +kernel
theorem dX8_make_148 : decode cX8_make 148 = .ok (.aload_n 0, 1) := by decide +kernel
theorem dX8_make_149 : decode cX8_make 149 = .ok (.getfield 32, 3) := by decide +kernel
theorem dX8_make_152 : decode cX8_make 152 = .ok (.iload 6, 2) := by decide +kernel
theorem dX8_make_154 : decode cX8_make 154 = .ok (.iconst 0, 1) := by decide +kernel
theorem dX8_make_155 : decode cX8_make 155 = .ok (.iastore, 1) := by decide +kernel
theorem dX8_make_156 : decode cX8_make 156 = .ok (.aload_n 0, 1) := by decide +kernel
theorem dX8_make_157 : decode cX8_make 157 = .ok (.getfield 32, 3) := by decide +kernel
theorem dX8_make_160 : decode cX8_make 160 = .ok (.iload_n 1, 1) := by decide +kernel
theorem dX8_make_161 : decode cX8_make 161 = .ok (.iconst 0, 1) := by decide +kernel
theorem dX8_make_162 : decode cX8_make 162 = .ok (.iastore, 1) := by decide +kernel
theorem dX8_make_163 : decode cX8_make 163 = .ok (.aload_n 0, 1) := by decide +kernel
theorem dX8_make_164 : decode cX8_make 164 = .ok (.getfield 32, 3) := by decide +kernel
theorem dX8_make_167 : decode cX8_make 167 = .ok (.iload_n 2, 1) := by decide +kernel
theorem dX8_make_168 : decode cX8_make 168 = .ok (.iload 8, 2) := by decide +kernel
theorem dX8_make_170 : decode cX8_make 170 = .ok (.iastore, 1) := by decide +kernel
theorem dX8_make_171 : decode cX8_make 171 = .ok (.aload_n 0, 1) := by decide +kernel
theorem dX8_make_172 : decode cX8_make 172 = .ok (.iload 10, 2) := by decide +kernel
theorem dX8_make_174 : decode cX8_make 174 = .ok (.ifCond .eq 16, 3) := by decide +kernel
theorem dX8_make_177 : decode cX8_make 177 = .ok (.aload_n 0, 1) := by decide +kernel
theorem dX8_make_178 : decode cX8_make 178 = .ok (.iload_n 1, 1) := by decide +kernel
theorem dX8_make_179 : decode cX8_make 179 = .ok (.iload 5, 2) := by decide +kernel
theorem dX8_make_181 : decode cX8_make 181 = .ok (.invokestatic 104, 3) := by decide +kernel
theorem dX8_make_184 : decode cX8_make 184 = .ok (.invokevirtual 107, 3) := by decide +kernel
theorem dX8_make_187 : decode cX8_make 187 = .ok (.goto 4, 3) := by decide +kernel
theorem dX8_make_190 : decode cX8_make 190 = .ok (.iconst (-1), 1) := by decide +kernel
theorem dX8_make_191 : decode cX8_make 191 = .ok (.putfield 35, 3) := by decide +kernel
theorem dX8_make_194 : decode cX8_make 194 = .ok (.aload_n 0, 1) := by decide +kernel
theorem dX8_make_195 : decode cX8_make 195 = .ok (.iload 9, 2) := by decide +kernel
theorem dX8_make_197 : decode cX8_make 197 = .ok (.ifCond .ne 8, 3) := by decide +kernel
theorem dX8_make_200 : decode cX8_make 200 = .ok (.iload 7, 2) := by decide +kernel
theorem dX8_make_202 : decode cX8_make 202 = .ok (.ifCond .eq 7, 3) := by decide +kernel
theorem dX8_make_205 : decode cX8_make 205 = .ok (.iconst 0, 1) := by decide +kernel
theorem dX8_make_206 : decode cX8_make 206 = .ok (.goto 9, 3) := by decide +kernel
theorem dX8_make_209 : decode cX8_make 209 = .ok (.aload_n 0, 1) := by decide +kernel
theorem dX8_make_210 : decode cX8_make 210 = .ok (.getfield 162, 3) := by decide +kernel
theorem dX8_make_213 : decode cX8_make 213 = .ok (.iconst 1, 1) := by decide +kernel
theorem dX8_make_214 : decode cX8_make 214 = .ok (.iadd, 1) := by decide +kernel
theorem dX8_make_215 : decode cX8_make 215 = .ok (.putfield 162, 3) := by decide +kernel
theorem dX8_make_218 : decode cX8_make 218 = .ok (.aload_n 0, 1) := by decide +kernel
theorem dX8_make_219 : decode cX8_make 219 = .ok (.iconst 1, 1) := by decide +kernel
theorem dX8_make_220 : decode cX8_make 220 = .ok (.aload_n 0, 1) := by decide +kernel
theorem dX8_make_221 : decode cX8_make 221 = .ok (.getfield 125, 3) := by decide +kernel
theorem dX8_make_224 : decode cX8_make 224 = .ok (.isub, 1) := by decide +kernel
theorem dX8_make_225 : decode cX8_make 225 = .ok (.putfield 125, 3) := by decide +kernel
theorem dX8_make_228 : decode cX8_make 228 = .ok (.iload 7, 2) := by decide +kernel
theorem dX8_make_230 : decode cX8_make 230 = .ok (.invokestatic 136, 3) := by decide +kernel
theorem dX8_make_233 : decode cX8_make 233 = .ok (.ireturn, 1) := by decide +kernel
theorem dX8_unmake_0 : decode cX8_unmake 0 = .ok (.aload_n 0, 1) := by decide +kernel
theorem dX8_unmake_1 : decode cX8_unmake 1 = .ok (.dup, 1) := by decide +kernel
theorem dX8_unmake_2 : decode cX8_unmake 2 = .ok (.getfield 153, 3) := by decide +kernel
theorem dX8_unmake_5 : decode cX8_unmake 5 = .ok (.iconst 1, 1) := by decide +kernel
theorem dX8_unmake_6 : decode cX8_unmake 6 = .ok (.isub, 1) := by decide +kernel
theorem dX8_unmake_7 : decode cX8_unmake 7 = .ok (.putfield 153, 3) := by decide +kernel
theorem dX8_unmake_10 : decode cX8_unmake 10 = .ok (.aload_n 0, 1) := by decide +kernel
theorem dX8_unmake_11 : decode cX8_unmake 11 = .ok (.getfield 153, 3) := by decide +kernel
theorem dX8_unmake_14 : decode cX8_unmake 14 = .ok (.bipush 7, 2) := by decide +kernel
theorem dX8_unmake_16 : decode cX8_unmake 16 = .ok (.imul, 1) := by decide +kernel
theorem dX8_unmake_17 : decode cX8_unmake 17 = .ok (.istore_n 1, 1) := by decide +kernel
theorem dX8_unmake_18 : decode cX8_unmake 18 = .ok (.aload_n 0, 1) := by decide +kernel
theorem dX8_unmake_19 : decode cX8_unmake 19 = .ok (.getfield 32, 3) := by decide +kernel
theorem dX8_unmake_22 : decode cX8_unmake 22 = .ok (.aload_n 0, 1) := by decide +kernel
theorem dX8_unmake_23 : decode cX8_unmake 23 = .ok (.getfield 38, 3) := by decide +kernel
theorem dX8_unmake_26 : decode cX8_unmake 26 = .ok (.iload_n 1, 1) := by decide +kernel
theorem dX8_unmake_27 : decode cX8_unmake 27 = .ok (.iconst 1, 1) := by decide +kernel
theorem dX8_unmake_28 : decode cX8_unmake 28 = .ok (.iadd, 1) := by decide +kernel
theorem dX8_unmake_29 : decode cX8_unmake 29 = .ok (.iaload, 1) := by decide +kernel
theorem dX8_unmake_30 : decode cX8_unmake 30 = .ok (.iconst 0, 1) := by decide +kernel
theorem dX8_unmake_31 : decode cX8_unmake 31 = .ok (.iastore, 1) := by decide +kernel
theorem dX8_unmake_32 : decode cX8_unmake 32 = .ok (.aload_n 0, 1) := by decide +kernel
theorem dX8_unmake_33 : decode cX8_unmake 33 = .ok (.getfield 32, 3) := by decide +kernel
theorem dX8_unmake_36 : decode cX8_unmake 36 = .ok (.aload_n 0, 1) := by decide +kernel
theorem dX8_unmake_37 : decode cX8_unmake 37 = .ok (.getfield 38, 3) := by decide +kernel
theorem dX8_unmake_40 : decode cX8_unmake 40 = .ok (.iload_n 1, 1) := by decide +kernel
theorem dX8_unmake_41 : decode cX8_unmake 41 = .ok (.iconst 4, 1) := by decide +kernel
theorem dX8_unmake_42 : decode cX8_unmake 42 = .ok (.iadd, 1) := by decide +kernel
theorem dX8_unmake_43 : decode cX8_unmake 43 = .ok (.iaload, 1) := by decide +kernel
theorem dX8_unmake_44 : decode cX8_unmake 44 = .ok (.aload_n 0, 1) := by decide +kernel
theorem dX8_unmake_45 : decode cX8_unmake 45 = .ok (.getfield 38, 3) := by decide +kernel
theorem dX8_unmake_48 : decode cX8_unmake 48 = .ok (.iload_n 1, 1) := by decide +kernel
theorem dX8_unmake_49 : decode cX8_unmake 49 = .ok (.iconst 3, 1) := by decide +kernel
theorem dX8_unmake_50 : decode cX8_unmake 50 = .ok (.iadd, 1) := by decide +kernel
theorem dX8_unmake_51 : decode cX8_unmake 51 = .ok (.iaload, 1) := by decide +kernel
theorem dX8_unmake_52 : decode cX8_unmake 52 = .ok (.iastore, 1) := by decide +kernel
theorem dX8_unmake_53 : decode cX8_unmake 53 = .ok (.aload_n 0, 1) := by decide +kernel
theorem dX8_unmake_54 : decode cX8_unmake 54 = .ok (.getfield 32, 3) := by decide +kernel
theorem dX8_unmake_57 : decode cX8_unmake 57 = .ok (.aload_n 0, 1) := by decide +kernel
theorem dX8_unmake_58 : decode cX8_unmake 58 = .ok (.getfield 38, 3) := by decide +kernel
theorem dX8_unmake_61 : decode cX8_unmake 61 = .ok (.iload_n 1, 1) := by decide +kernel
theorem dX8_unmake_62 : decode cX8_unmake 62 = .ok (.iaload, 1) := by decide +kernel
theorem dX8_unmake_63 : decode cX8_unmake 63 = .ok (.aload_n 0, 1) := by decide +kernel
theorem dX8_unmake_64 : decode cX8_unmake 64 = .ok (.getfield 38, 3) := by decide +kernel
theorem dX8_unmake_67 : decode cX8_unmake 67 = .ok (.iload_n 1, 1) := by decide +kernel
theorem dX8_unmake_68 : decode cX8_unmake 68 = .ok (.iconst 2, 1) := by decide +kernel
theorem dX8_unmake_69 : decode cX8_unmake 69 = .ok (.iadd, 1) := by decide +kernel
theorem dX8_unmake_70 : decode cX8_unmake 70 = .ok (.iaload, 1) := by decide +kernel
theorem dX8_unmake_71 : decode cX8_unmake 71 = .ok (.iastore, 1) := by decide +kernel
theorem dX8_unmake_72 : decode cX8_unmake 72 = .ok (.aload_n 0, 1) := by decide +kernel
theorem dX8_unmake_73 : decode cX8_unmake 73 = .ok (.aload_n 0, 1) := by decide +kernel
theorem dX8_unmake_74 : decode cX8_unmake 74 = .ok (.getfield 38, 3) := by decide +kernel
theorem dX8_unmake_77 : decode cX8_unmake 77 = .ok (.iload_n 1, 1) := by decide +kernel
theorem dX8_unmake_78 : decode cX8_unmake 78 = .ok (.iconst 5, 1) := by decide +kernel
theorem dX8_unmake_79 : decode cX8_unmake 79 = .ok (.iadd, 1) := by decide +kernel
theorem dX8_unmake_80 : decode cX8_unmake 80 = .ok (.iaload, 1) := by decide +kernel
theorem dX8_unmake_81 : decode cX8_unmake 81 = .ok (.putfield 35, 3) := by decide +kernel
theorem dX8_unmake_84 : decode cX8_unmake 84 = .ok (.aload_n 0, 1) := by decide +kernel
theorem dX8_unmake_85 : decode cX8_unmake 85 = .ok (.aload_n 0, 1) := by decide +kernel
theorem dX8_unmake_86 : decode cX8_unmake 86 = .ok (.getfield 38, 3) := by decide +kernel
theorem dX8_unmake_89 : decode cX8_unmake 89 = .ok (.iload_n 1, 1) := by decide +kernel
theorem dX8_unmake_90 : decode cX8_unmake 90 = .ok (.bipush 6, 2) := by decide +kernel
theorem dX8_unmake_92 : decode cX8_unmake 92 = .ok (.iadd, 1) := by decide +kernel
theorem dX8_unmake_93 : decode cX8_unmake 93 = .ok (.iaload, 1) := by decide +kernel
theorem dX8_unmake_94 : decode cX8_unmake 94 = .ok (.putfield 162, 3) := by decide +kernel
theorem dX8_unmake_97 : decode cX8_unmake 97 = .ok (.aload_n 0, 1) := by decide +kernel
theorem dX8_unmake_98 : decode cX8_unmake 98 = .ok (.iconst 1, 1) := by decide +kernel
theorem dX8_unmake_99 : decode cX8_unmake 99 = .ok (.aload_n 0, 1) := by decide +kernel
theorem dX8_unmake_100 : decode cX8_unmake 100 = .ok (.getfield 125, 3) := by decide +kernel
theorem dX8_unmake_103 : decode cX8_unmake 103 = .ok (.isub, 1) := by decide +kernel
theorem dX8_unmake_104 : decode cX8_unmake 104 = .ok (.putfield 125, 3) := by decide +kernel
theorem dX8_unmake_107 : decode cX8_unmake 107 = .ok (.return_, 1) := by decide +kernel
theorem dX8_isSafe_0 : decode cX8_isSafe 0 = .ok (.aload_n 0, 1) := by decide +kernel
theorem dX8_isSafe_1 : decode cX8_isSafe 1 = .ok (.iload_n 1, 1) := by decide +kernel
theorem dX8_isSafe_2 : decode cX8_isSafe 2 = .ok (.iload_n 2, 1) := by decide +kernel
theorem dX8_isSafe_3 : decode cX8_isSafe 3 = .ok (.iconst 2, 1) := by decide +kernel
theorem dX8_isSafe_4 : decode cX8_isSafe 4 = .ok (.invokevirtual 175, 3) := by decide +kernel
theorem dX8_isSafe_7 : decode cX8_isSafe 7 = .ok (.pop, 1) := by decide +kernel
theorem dX8_isSafe_8 : decode cX8_isSafe 8 = .ok (.aload_n 0, 1) := by decide +kernel
theorem dX8_isSafe_9 : decode cX8_isSafe 9 = .ok (.iconst 1, 1) := by decide +kernel
theorem dX8_isSafe_10 : decode cX8_isSafe 10 = .ok (.aload_n 0, 1) := by decide +kernel
theorem dX8_isSafe_11 : decode cX8_isSafe 11 = .ok (.getfield 125, 3) := by decide +kernel
theorem dX8_isSafe_14 : decode cX8_isSafe 14 = .ok (.isub, 1) := by decide +kernel
theorem dX8_isSafe_15 : decode cX8_isSafe 15 = .ok (.invokevirtual 128, 3) := by decide +kernel
theorem dX8_isSafe_18 : decode cX8_isSafe 18 = .ok (.ifCond .ne 7, 3) := by decide +kernel
theorem dX8_isSafe_21 : decode cX8_isSafe 21 = .ok (.iconst 1, 1) := by decide +kernel
theorem dX8_isSafe_22 : decode cX8_isSafe 22 = .ok (.goto 4, 3) := by decide +kernel
theorem dX8_isSafe_25 : decode cX8_isSafe 25 = .ok (.iconst 0, 1) := by decide +kernel
theorem dX8_isSafe_26 : decode cX8_isSafe 26 = .ok (.istore_n 3, 1) := by decide +kernel
theorem dX8_isSafe_27 : decode cX8_isSafe 27 = .ok (.aload_n 0, 1) := by decide +kernel
theorem dX8_isSafe_28 : decode cX8_isSafe 28 = .ok (.invokevirtual 179, 3) := by decide +kernel
theorem dX8_isSafe_31 : decode cX8_isSafe 31 = .ok (.iload_n 3, 1) := by decide +kernel
theorem dX8_isSafe_32 : decode cX8_isSafe 32 = .ok (.ireturn, 1) := by decide +kernel
theorem dX8_listAll_0 : decode cX8_listAll 0 = .ok (.aload_n 0, 1) := by decide +kernel
theorem dX8_listAll_1 : decode cX8_listAll 1 = .ok (.invokevirtual 182, 3) := by decide +kernel
theorem dX8_listAll_4 : decode cX8_listAll 4 = .ok (.ifCond .ne 5, 3) := by decide +kernel
theorem dX8_listAll_7 : decode cX8_listAll 7 = .ok (.iconst 0, 1) := by decide +kernel
theorem dX8_listAll_8 : decode cX8_listAll 8 = .ok (.ireturn, 1) := by decide +kernel
theorem dX8_listAll_9 : decode cX8_listAll 9 = .ok (.iconst 0, 1) := by decide +kernel
theorem dX8_listAll_10 : decode cX8_listAll 10 = .ok (.istore_n 2, 1) := by decide +kernel
theorem dX8_listAll_11 : decode cX8_listAll 11 = .ok (.iconst 0, 1) := by decide +kernel
theorem dX8_listAll_12 : decode cX8_listAll 12 = .ok (.istore_n 3, 1) := by decide +kernel
theorem dX8_listAll_13 : decode cX8_listAll 13 = .ok (.iload_n 3, 1) := by decide +kernel
theorem dX8_listAll_14 : decode cX8_listAll 14 = .ok (.bipush 91, 2) := by decide +kernel
theorem dX8_listAll_16 : decode cX8_listAll 16 = .ok (.if_icmp .ge 102, 3) := by decide +kernel
theorem dX8_listAll_19 : decode cX8_listAll 19 = .ok (.aload_n 0, 1) := by decide +kernel
theorem dX8_listAll_20 : decode cX8_listAll 20 = .ok (.getfield 32, 3) := by decide +kernel
theorem dX8_listAll_23 : decode cX8_listAll 23 = .ok (.iload_n 3, 1) := by decide +kernel
theorem dX8_listAll_24 : decode cX8_listAll 24 = .ok (.iaload, 1) := by decide +kernel
theorem dX8_listAll_25 : decode cX8_listAll 25 = .ok (.invokestatic 139, 3) := by decide +kernel
theorem dX8_listAll_28 : decode cX8_listAll 28 = .ok (.aload_n 0, 1) := by decide +kernel
theorem dX8_listAll_29 : decode cX8_listAll 29 = .ok (.getfield 125, 3) := by decide +kernel
theorem dX8_listAll_32 : decode cX8_listAll 32 = .ok (.if_icmp .eq 6, 3) := by decide +kernel
theorem dX8_listAll_35 : decode cX8_listAll 35 = .ok (.goto 77, 3) := by decide +kernel
theorem dX8_listAll_38 : decode cX8_listAll 38 = .ok (.aload_n 0, 1) := by decide +kernel
theorem dX8_listAll_39 : decode cX8_listAll 39 = .ok (.iload_n 3, 1) := by decide +kernel
theorem dX8_listAll_40 : decode cX8_listAll 40 = .ok (.invokevirtual 186, 3) := by decide +kernel
theorem dX8_listAll_43 : decode cX8_listAll 43 = .ok (.iconst 0, 1) := by decide +kernel
theorem dX8_listAll_44 : decode cX8_listAll 44 = .ok (.istore 4, 2) := by decide +kernel
theorem dX8_listAll_46 : decode cX8_listAll 46 = .ok (.iload 4, 2) := by decide +kernel
theorem dX8_listAll_48 : decode cX8_listAll 48 = .ok (.bipush 91, 2) := by decide +kernel
theorem dX8_listAll_50 : decode cX8_listAll 50 = .ok (.if_icmp .ge 62, 3) := by decide +kernel
theorem dX8_listAll_53 : decode cX8_listAll 53 = .ok (.aload_n 0, 1) := by decide +kernel
theorem dX8_listAll_54 : decode cX8_listAll 54 = .ok (.getfield 41, 3) := by decide +kernel
theorem dX8_listAll_57 : decode cX8_listAll 57 = .ok (.iload 4, 2) := by decide +kernel
theorem dX8_listAll_59 : decode cX8_listAll 59 = .ok (.baload, 1) := by decide +kernel
theorem dX8_listAll_60 : decode cX8_listAll 60 = .ok (.ifCond .eq 46, 3) := by decide +kernel
theorem dX8_listAll_63 : decode cX8_listAll 63 = .ok (.aload_n 0, 1) := by decide +kernel
theorem dX8_listAll_64 : decode cX8_listAll 64 = .ok (.getfield 32, 3) := by decide +kernel
theorem dX8_listAll_67 : decode cX8_listAll 67 = .ok (.iload 4, 2) := by decide +kernel
theorem dX8_listAll_69 : decode cX8_listAll 69 = .ok (.iaload, 1) := by decide +kernel
theorem dX8_listAll_70 : decode cX8_listAll 70 = .ok (.invokestatic 139, 3) := by decide +kernel
theorem dX8_listAll_73 : decode cX8_listAll 73 = .ok (.aload_n 0, 1) := by decide +kernel
theorem dX8_listAll_74 : decode cX8_listAll 74 = .ok (.getfield 125, 3) := by decide +kernel
theorem dX8_listAll_77 : decode cX8_listAll 77 = .ok (.if_icmp .eq 29, 3) := by decide +kernel
theorem dX8_listAll_80 : decode cX8_listAll 80 = .ok (.aload_n 0, 1) := by decide +kernel
theorem dX8_listAll_81 : decode cX8_listAll 81 = .ok (.iload_n 3, 1) := by decide +kernel
theorem dX8_listAll_82 : decode cX8_listAll 82 = .ok (.iload 4, 2) := by decide +kernel
theorem dX8_listAll_84 : decode cX8_listAll 84 = .ok (.invokevirtual 190, 3) := by decide +kernel
theorem dX8_listAll_87 : decode cX8_listAll 87 = .ok (.ifCond .ne 6, 3) := by decide +kernel
theorem dX8_listAll_90 : decode cX8_listAll 90 = .ok (.goto 16, 3) := by decide +kernel
theorem dX8_listAll_93 : decode cX8_listAll 93 = .ok (.aload_n 1, 1) := by decide +kernel
theorem dX8_listAll_94 : decode cX8_listAll 94 = .ok (.iload_n 2, 1) := by decide +kernel
theorem dX8_listAll_95 : decode cX8_listAll 95 = .ok (.bipush 91, 2) := by decide +kernel
theorem dX8_listAll_97 : decode cX8_listAll 97 = .ok (.iload_n 3, 1) := by decide +kernel
theorem dX8_listAll_98 : decode cX8_listAll 98 = .ok (.imul, 1) := by decide +kernel
theorem dX8_listAll_99 : decode cX8_listAll 99 = .ok (.iload 4, 2) := by decide +kernel
theorem dX8_listAll_101 : decode cX8_listAll 101 = .ok (.iadd, 1) := by decide +kernel
theorem dX8_listAll_102 : decode cX8_listAll 102 = .ok (.iastore, 1) := by decide +kernel
theorem dX8_listAll_103 : decode cX8_listAll 103 = .ok (.iinc 2 1, 3) := by decide +kernel
theorem dX8_listAll_106 : decode cX8_listAll 106 = .ok (.iinc 4 1, 3) := by decide +kernel
theorem dX8_listAll_109 : decode cX8_listAll 109 = .ok (.goto (-63), 3) := by decide +kernel
theorem dX8_listAll_112 : decode cX8_listAll 112 = .ok (.iinc 3 1, 3) := by decide +kernel
theorem dX8_listAll_115 : decode cX8_listAll 115 = .ok (.goto (-102), 3) := by decide +kernel
theorem dX8_listAll_118 : decode cX8_listAll 118 = .ok (.iload_n 2, 1) := by decide +kernel
theorem dX8_listAll_119 : decode cX8_listAll 119 = .ok (.ireturn, 1) := by decide +kernel
theorem dX8_list_0 : decode cX8_list 0 = .ok (.aload_n 0, 1) := by decide +kernel
theorem dX8_list_1 : decode cX8_list 1 = .ok (.getfield 162, 3) := by decide +kernel
theorem dX8_list_4 : decode cX8_list 4 = .ok (.bipush 60, 2) := by decide +kernel
theorem dX8_list_6 : decode cX8_list 6 = .ok (.if_icmp .lt 7, 3) := by decide +kernel
theorem dX8_list_9 : decode cX8_list 9 = .ok (.iconst 0, 1) := by decide +kernel
theorem dX8_list_10 : decode cX8_list 10 = .ok (.goto 8, 3) := by decide +kernel
theorem dX8_list_13 : decode cX8_list 13 = .ok (.aload_n 0, 1) := by decide +kernel
theorem dX8_list_14 : decode cX8_list 14 = .ok (.aload_n 1, 1) := by decide +kernel
theorem dX8_list_15 : decode cX8_list 15 = .ok (.invokevirtual 193, 3) := by decide +kernel
theorem dX8_list_18 : decode cX8_list 18 = .ok (.ireturn, 1) := by decide +kernel
theorem dX8_howItIs_0 : decode cX8_howItIs 0 = .ok (.aload_n 0, 1) := by decide +kernel
theorem dX8_howItIs_1 : decode cX8_howItIs 1 = .ok (.invokevirtual 182, 3) := by decide +kernel
theorem dX8_howItIs_4 : decode cX8_howItIs 4 = .ok (.ifCond .ne 5, 3) := by decide +kernel
theorem dX8_howItIs_7 : decode cX8_howItIs 7 = .ok (.iconst 5, 1) := by decide +kernel
theorem dX8_howItIs_8 : decode cX8_howItIs 8 = .ok (.ireturn, 1) := by decide +kernel
theorem dX8_howItIs_9 : decode cX8_howItIs 9 = .ok (.aload_n 0, 1) := by decide +kernel
theorem dX8_howItIs_10 : decode cX8_howItIs 10 = .ok (.aload_n 0, 1) := by decide +kernel
theorem dX8_howItIs_11 : decode cX8_howItIs 11 = .ok (.getfield 125, 3) := by decide +kernel
theorem dX8_howItIs_14 : decode cX8_howItIs 14 = .ok (.invokevirtual 128, 3) := by decide +kernel
theorem dX8_howItIs_17 : decode cX8_howItIs 17 = .ok (.istore_n 1, 1) := by decide +kernel
theorem dX8_howItIs_18 : decode cX8_howItIs 18 = .ok (.aload_n 0, 1) := by decide +kernel
theorem dX8_howItIs_19 : decode cX8_howItIs 19 = .ok (.aload_n 0, 1) := by decide +kernel
theorem dX8_howItIs_20 : decode cX8_howItIs 20 = .ok (.getfield 48, 3) := by decide +kernel
theorem dX8_howItIs_23 : decode cX8_howItIs 23 = .ok (.invokevirtual 193, 3) := by decide +kernel
theorem dX8_howItIs_26 : decode cX8_howItIs 26 = .ok (.ifCond .ne 13, 3) := by decide +kernel
theorem dX8_howItIs_29 : decode cX8_howItIs 29 = .ok (.iload_n 1, 1) := by decide +kernel
theorem dX8_howItIs_30 : decode cX8_howItIs 30 = .ok (.ifCond .eq 7, 3) := by decide +kernel
theorem dX8_howItIs_33 : decode cX8_howItIs 33 = .ok (.iconst 2, 1) := by decide +kernel
theorem dX8_howItIs_34 : decode cX8_howItIs 34 = .ok (.goto 4, 3) := by decide +kernel
theorem dX8_howItIs_37 : decode cX8_howItIs 37 = .ok (.iconst 3, 1) := by decide +kernel
theorem dX8_howItIs_38 : decode cX8_howItIs 38 = .ok (.ireturn, 1) := by decide +kernel
theorem dX8_howItIs_39 : decode cX8_howItIs 39 = .ok (.aload_n 0, 1) := by decide +kernel
theorem dX8_howItIs_40 : decode cX8_howItIs 40 = .ok (.getfield 162, 3) := by decide +kernel
theorem dX8_howItIs_43 : decode cX8_howItIs 43 = .ok (.bipush 60, 2) := by decide +kernel
theorem dX8_howItIs_45 : decode cX8_howItIs 45 = .ok (.if_icmp .lt 7, 3) := by decide +kernel
theorem dX8_howItIs_48 : decode cX8_howItIs 48 = .ok (.iconst 4, 1) := by decide +kernel
theorem dX8_howItIs_49 : decode cX8_howItIs 49 = .ok (.goto 12, 3) := by decide +kernel
theorem dX8_howItIs_52 : decode cX8_howItIs 52 = .ok (.iload_n 1, 1) := by decide +kernel
theorem dX8_howItIs_53 : decode cX8_howItIs 53 = .ok (.ifCond .eq 7, 3) := by decide +kernel
theorem dX8_howItIs_56 : decode cX8_howItIs 56 = .ok (.iconst 1, 1) := by decide +kernel
theorem dX8_howItIs_57 : decode cX8_howItIs 57 = .ok (.goto 4, 3) := by decide +kernel
theorem dX8_howItIs_60 : decode cX8_howItIs 60 = .ok (.iconst 0, 1) := by decide +kernel
theorem dX8_howItIs_61 : decode cX8_howItIs 61 = .ok (.ireturn, 1) := by decide +kernel
theorem dX8_placeOf_0 : decode cX8_placeOf 0 = .ok (.aload_n 0, 1) := by decide +kernel
theorem dX8_placeOf_1 : decode cX8_placeOf 1 = .ok (.aload_n 0, 1) := by decide +kernel
theorem dX8_placeOf_2 : decode cX8_placeOf 2 = .ok (.getfield 45, 3) := by decide +kernel
theorem dX8_placeOf_5 : decode cX8_placeOf 5 = .ok (.invokevirtual 197, 3) := by decide +kernel
theorem dX8_placeOf_8 : decode cX8_placeOf 8 = .ok (.istore_n 2, 1) := by decide +kernel
theorem dX8_placeOf_9 : decode cX8_placeOf 9 = .ok (.iconst 0, 1) := by decide +kernel
theorem dX8_placeOf_10 : decode cX8_placeOf 10 = .ok (.istore_n 3, 1) := by decide +kernel
theorem dX8_placeOf_11 : decode cX8_placeOf 11 = .ok (.iload_n 3, 1) := by decide +kernel
theorem dX8_placeOf_12 : decode cX8_placeOf 12 = .ok (.iload_n 2, 1) := by decide +kernel
theorem dX8_placeOf_13 : decode cX8_placeOf 13 = .ok (.if_icmp .ge 21, 3) := by decide +kernel
theorem dX8_placeOf_16 : decode cX8_placeOf 16 = .ok (.aload_n 0, 1) := by decide +kernel
theorem dX8_placeOf_17 : decode cX8_placeOf 17 = .ok (.getfield 45, 3) := by decide +kernel
theorem dX8_placeOf_20 : decode cX8_placeOf 20 = .ok (.iload_n 3, 1) := by decide +kernel
theorem dX8_placeOf_21 : decode cX8_placeOf 21 = .ok (.iaload, 1) := by decide +kernel
theorem dX8_placeOf_22 : decode cX8_placeOf 22 = .ok (.iload_n 1, 1) := by decide +kernel
theorem dX8_placeOf_23 : decode cX8_placeOf 23 = .ok (.if_icmp .ne 5, 3) := by decide +kernel
theorem dX8_placeOf_26 : decode cX8_placeOf 26 = .ok (.iload_n 3, 1) := by decide +kernel
theorem dX8_placeOf_27 : decode cX8_placeOf 27 = .ok (.ireturn, 1) := by decide +kernel
theorem dX8_placeOf_28 : decode cX8_placeOf 28 = .ok (.iinc 3 1, 3) := by decide +kernel
theorem dX8_placeOf_31 : decode cX8_placeOf 31 = .ok (.goto (-20), 3) := by decide +kernel
theorem dX8_placeOf_34 : decode cX8_placeOf 34 = .ok (.iconst (-1), 1) := by decide +kernel
theorem dX8_placeOf_35 : decode cX8_placeOf 35 = .ok (.ireturn, 1) := by decide +kernel
theorem dX8_byteAt_0 : decode cX8_byteAt 0 = .ok (.iload_n 1, 1) := by decide +kernel
theorem dX8_byteAt_1 : decode cX8_byteAt 1 = .ok (.aload_n 0, 1) := by decide +kernel
theorem dX8_byteAt_2 : decode cX8_byteAt 2 = .ok (.getfield 200, 3) := by decide +kernel
theorem dX8_byteAt_5 : decode cX8_byteAt 5 = .ok (.if_icmp .ge 12, 3) := by decide +kernel
theorem dX8_byteAt_8 : decode cX8_byteAt 8 = .ok (.aload_n 0, 1) := by decide +kernel
theorem dX8_byteAt_9 : decode cX8_byteAt 9 = .ok (.getfield 9, 3) := by decide +kernel
theorem dX8_byteAt_12 : decode cX8_byteAt 12 = .ok (.iload_n 1, 1) := by decide +kernel
theorem dX8_byteAt_13 : decode cX8_byteAt 13 = .ok (.iaload, 1) := by decide +kernel
theorem dX8_byteAt_14 : decode cX8_byteAt 14 = .ok (.goto 4, 3) := by decide +kernel
theorem dX8_byteAt_17 : decode cX8_byteAt 17 = .ok (.iconst (-1), 1) := by decide +kernel
theorem dX8_byteAt_18 : decode cX8_byteAt 18 = .ok (.ireturn, 1) := by decide +kernel
theorem dX8_isLetter_0 : decode cX8_isLetter 0 = .ok (.iload_n 0, 1) := by decide +kernel
theorem dX8_isLetter_1 : decode cX8_isLetter 1 = .ok (.bipush 97, 2) := by decide +kernel
theorem dX8_isLetter_3 : decode cX8_isLetter 3 = .ok (.if_icmp .lt 13, 3) := by decide +kernel
theorem dX8_isLetter_6 : decode cX8_isLetter 6 = .ok (.iload_n 0, 1) := by decide +kernel
theorem dX8_isLetter_7 : decode cX8_isLetter 7 = .ok (.bipush 122, 2) := by decide +kernel
theorem dX8_isLetter_9 : decode cX8_isLetter 9 = .ok (.if_icmp .gt 7, 3) := by decide +kernel
theorem dX8_isLetter_12 : decode cX8_isLetter 12 = .ok (.iconst 1, 1) := by decide +kernel
theorem dX8_isLetter_13 : decode cX8_isLetter 13 = .ok (.goto 4, 3) := by decide +kernel
theorem dX8_isLetter_16 : decode cX8_isLetter 16 = .ok (.iconst 0, 1) := by decide +kernel
theorem dX8_isLetter_17 : decode cX8_isLetter 17 = .ok (.ireturn, 1) := by decide +kernel
theorem dX8_isDigit_0 : decode cX8_isDigit 0 = .ok (.iload_n 0, 1) := by decide +kernel
theorem dX8_isDigit_1 : decode cX8_isDigit 1 = .ok (.bipush 48, 2) := by decide +kernel
theorem dX8_isDigit_3 : decode cX8_isDigit 3 = .ok (.if_icmp .lt 13, 3) := by decide +kernel
theorem dX8_isDigit_6 : decode cX8_isDigit 6 = .ok (.iload_n 0, 1) := by decide +kernel
theorem dX8_isDigit_7 : decode cX8_isDigit 7 = .ok (.bipush 57, 2) := by decide +kernel
theorem dX8_isDigit_9 : decode cX8_isDigit 9 = .ok (.if_icmp .gt 7, 3) := by decide +kernel
theorem dX8_isDigit_12 : decode cX8_isDigit 12 = .ok (.iconst 1, 1) := by decide +kernel
theorem dX8_isDigit_13 : decode cX8_isDigit 13 = .ok (.goto 4, 3) := by decide +kernel
theorem dX8_isDigit_16 : decode cX8_isDigit 16 = .ok (.iconst 0, 1) := by decide +kernel
theorem dX8_isDigit_17 : decode cX8_isDigit 17 = .ok (.ireturn, 1) := by decide +kernel
theorem dX8_wordAt_0 : decode cX8_wordAt 0 = .ok (.iconst 0, 1) := by decide +kernel
theorem dX8_wordAt_1 : decode cX8_wordAt 1 = .ok (.istore_n 3, 1) := by decide +kernel
theorem dX8_wordAt_2 : decode cX8_wordAt 2 = .ok (.iload_n 3, 1) := by decide +kernel
theorem dX8_wordAt_3 : decode cX8_wordAt 3 = .ok (.getstatic 203, 3) := by decide +kernel
theorem dX8_wordAt_6 : decode cX8_wordAt 6 = .ok (.arraylength, 1) := by decide +kernel
theorem dX8_wordAt_7 : decode cX8_wordAt 7 = .ok (.if_icmp .ge 84, 3) := by decide +kernel
theorem dX8_wordAt_10 : decode cX8_wordAt 10 = .ok (.getstatic 203, 3) := by decide +kernel
theorem dX8_wordAt_13 : decode cX8_wordAt 13 = .ok (.iload_n 3, 1) := by decide +kernel
theorem dX8_wordAt_14 : decode cX8_wordAt 14 = .ok (.aaload, 1) := by decide +kernel
theorem dX8_wordAt_15 : decode cX8_wordAt 15 = .ok (.invokevirtual 207, 3) := by decide +kernel
theorem dX8_wordAt_18 : decode cX8_wordAt 18 = .ok (.iload_n 2, 1) := by decide +kernel
theorem dX8_wordAt_19 : decode cX8_wordAt 19 = .ok (.if_icmp .ne 7, 3) := by decide +kernel
theorem dX8_wordAt_22 : decode cX8_wordAt 22 = .ok (.iconst 1, 1) := by decide +kernel
theorem dX8_wordAt_23 : decode cX8_wordAt 23 = .ok (.goto 4, 3) := by decide +kernel
theorem dX8_wordAt_26 : decode cX8_wordAt 26 = .ok (.iconst 0, 1) := by decide +kernel
theorem dX8_wordAt_27 : decode cX8_wordAt 27 = .ok (.istore 4, 2) := by decide +kernel
theorem dX8_wordAt_29 : decode cX8_wordAt 29 = .ok (.iconst 0, 1) := by decide +kernel
theorem dX8_wordAt_30 : decode cX8_wordAt 30 = .ok (.istore 5, 2) := by decide +kernel
theorem dX8_wordAt_32 : decode cX8_wordAt 32 = .ok (.iload 5, 2) := by decide +kernel
theorem dX8_wordAt_34 : decode cX8_wordAt 34 = .ok (.iload_n 2, 1) := by decide +kernel
theorem dX8_wordAt_35 : decode cX8_wordAt 35 = .ok (.if_icmp .ge 43, 3) := by decide +kernel
theorem dX8_wordAt_38 : decode cX8_wordAt 38 = .ok (.iload 4, 2) := by decide +kernel
theorem dX8_wordAt_40 : decode cX8_wordAt 40 = .ok (.ifCond .eq 38, 3) := by decide +kernel
theorem dX8_wordAt_43 : decode cX8_wordAt 43 = .ok (.getstatic 203, 3) := by decide +kernel
theorem dX8_wordAt_46 : decode cX8_wordAt 46 = .ok (.iload_n 3, 1) := by decide +kernel
theorem dX8_wordAt_47 : decode cX8_wordAt 47 = .ok (.aaload, 1) := by decide +kernel
theorem dX8_wordAt_48 : decode cX8_wordAt 48 = .ok (.iload 5, 2) := by decide +kernel
theorem dX8_wordAt_50 : decode cX8_wordAt 50 = .ok (.invokevirtual 213, 3) := by decide +kernel
theorem dX8_wordAt_53 : decode cX8_wordAt 53 = .ok (.aload_n 0, 1) := by decide +kernel
theorem dX8_wordAt_54 : decode cX8_wordAt 54 = .ok (.getfield 9, 3) := by decide +kernel
theorem dX8_wordAt_57 : decode cX8_wordAt 57 = .ok (.iload_n 1, 1) := by decide +kernel
theorem dX8_wordAt_58 : decode cX8_wordAt 58 = .ok (.iload 5, 2) := by decide +kernel
theorem dX8_wordAt_60 : decode cX8_wordAt 60 = .ok (.iadd, 1) := by decide +kernel
theorem dX8_wordAt_61 : decode cX8_wordAt 61 = .ok (.iaload, 1) := by decide +kernel
theorem dX8_wordAt_62 : decode cX8_wordAt 62 = .ok (.if_icmp .ne 7, 3) := by decide +kernel
theorem dX8_wordAt_65 : decode cX8_wordAt 65 = .ok (.iconst 1, 1) := by decide +kernel
theorem dX8_wordAt_66 : decode cX8_wordAt 66 = .ok (.goto 4, 3) := by decide +kernel
theorem dX8_wordAt_69 : decode cX8_wordAt 69 = .ok (.iconst 0, 1) := by decide +kernel
theorem dX8_wordAt_70 : decode cX8_wordAt 70 = .ok (.istore 4, 2) := by decide +kernel
theorem dX8_wordAt_72 : decode cX8_wordAt 72 = .ok (.iinc 5 1, 3) := by decide +kernel
theorem dX8_wordAt_75 : decode cX8_wordAt 75 = .ok (.goto (-43), 3) := by decide +kernel
theorem dX8_wordAt_78 : decode cX8_wordAt 78 = .ok (.iload 4, 2) := by decide +kernel
theorem dX8_wordAt_80 : decode cX8_wordAt 80 = .ok (.ifCond .eq 5, 3) := by decide +kernel
theorem dX8_wordAt_83 : decode cX8_wordAt 83 = .ok (.iload_n 3, 1) := by decide +kernel
theorem dX8_wordAt_84 : decode cX8_wordAt 84 = .ok (.ireturn, 1) := by decide +kernel
theorem dX8_wordAt_85 : decode cX8_wordAt 85 = .ok (.iinc 3 1, 3) := by decide +kernel
theorem dX8_wordAt_88 : decode cX8_wordAt 88 = .ok (.goto (-86), 3) := by decide +kernel
theorem dX8_wordAt_91 : decode cX8_wordAt 91 = .ok (.bipush 20, 2) := by decide +kernel
theorem dX8_wordAt_93 : decode cX8_wordAt 93 = .ok (.ireturn, 1) := by decide +kernel
theorem dX8_kindAt_0 : decode cX8_kindAt 0 = .ok (.aload_n 0, 1) := by decide +kernel
theorem dX8_kindAt_1 : decode cX8_kindAt 1 = .ok (.iload_n 1, 1) := by decide +kernel
theorem dX8_kindAt_2 : decode cX8_kindAt 2 = .ok (.invokevirtual 217, 3) := by decide +kernel
theorem dX8_kindAt_5 : decode cX8_kindAt 5 = .ok (.istore_n 3, 1) := by decide +kernel
theorem dX8_kindAt_6 : decode cX8_kindAt 6 = .ok (.iload_n 1, 1) := by decide +kernel
theorem dX8_kindAt_7 : decode cX8_kindAt 7 = .ok (.iconst 1, 1) := by decide +kernel
theorem dX8_kindAt_8 : decode cX8_kindAt 8 = .ok (.iadd, 1) := by decide +kernel
theorem dX8_kindAt_9 : decode cX8_kindAt 9 = .ok (.istore 4, 2) := by decide +kernel
theorem dX8_kindAt_11 : decode cX8_kindAt 11 = .ok (.iload_n 3, 1) := by decide +kernel
theorem dX8_kindAt_12 : decode cX8_kindAt 12 = .ok (.iconst (-1), 1) := by decide +kernel
theorem dX8_kindAt_13 : decode cX8_kindAt 13 = .ok (.if_icmp .ne 6, 3) := by decide +kernel
theorem dX8_kindAt_16 : decode cX8_kindAt 16 = .ok (.bipush 22, 2) := by decide +kernel
theorem dX8_kindAt_18 : decode cX8_kindAt 18 = .ok (.ireturn, 1) := by decide +kernel
theorem dX8_kindAt_19 : decode cX8_kindAt 19 = .ok (.iload_n 3, 1) := by decide +kernel
theorem dX8_kindAt_20 : decode cX8_kindAt 20 = .ok (.invokestatic 220, 3) := by decide +kernel
theorem dX8_kindAt_23 : decode cX8_kindAt 23 = .ok (.ifCond .eq 33, 3) := by decide +kernel
theorem dX8_kindAt_26 : decode cX8_kindAt 26 = .ok (.aload_n 0, 1) := by decide +kernel
theorem dX8_kindAt_27 : decode cX8_kindAt 27 = .ok (.iload 4, 2) := by decide +kernel
theorem dX8_kindAt_29 : decode cX8_kindAt 29 = .ok (.invokevirtual 217, 3) := by decide +kernel
theorem dX8_kindAt_32 : decode cX8_kindAt 32 = .ok (.invokestatic 220, 3) := by decide +kernel
theorem dX8_kindAt_35 : decode cX8_kindAt 35 = .ok (.ifCond .ne 15, 3) := by decide +kernel
theorem dX8_kindAt_38 : decode cX8_kindAt 38 = .ok (.aload_n 0, 1) := by decide +kernel
theorem dX8_kindAt_39 : decode cX8_kindAt 39 = .ok (.iload 4, 2) := by decide +kernel
theorem dX8_kindAt_41 : decode cX8_kindAt 41 = .ok (.invokevirtual 217, 3) := by decide +kernel
theorem dX8_kindAt_44 : decode cX8_kindAt 44 = .ok (.invokestatic 223, 3) := by decide +kernel
theorem dX8_kindAt_47 : decode cX8_kindAt 47 = .ok (.ifCond .eq 9, 3) := by decide +kernel
theorem dX8_kindAt_50 : decode cX8_kindAt 50 = .ok (.iinc 4 1, 3) := by decide +kernel
theorem dX8_kindAt_53 : decode cX8_kindAt 53 = .ok (.goto (-27), 3) := by decide +kernel
theorem dX8_kindAt_56 : decode cX8_kindAt 56 = .ok (.aload_n 0, 1) := by decide +kernel
theorem dX8_kindAt_57 : decode cX8_kindAt 57 = .ok (.getfield 63, 3) := by decide +kernel
theorem dX8_kindAt_60 : decode cX8_kindAt 60 = .ok (.iload_n 2, 1) := by decide +kernel
theorem dX8_kindAt_61 : decode cX8_kindAt 61 = .ok (.iload 4, 2) := by decide +kernel
theorem dX8_kindAt_63 : decode cX8_kindAt 63 = .ok (.iload_n 1, 1) := by decide +kernel
theorem dX8_kindAt_64 : decode cX8_kindAt 64 = .ok (.isub, 1) := by decide +kernel
theorem dX8_kindAt_65 : decode cX8_kindAt 65 = .ok (.iastore, 1) := by decide +kernel
theorem dX8_kindAt_66 : decode cX8_kindAt 66 = .ok (.iload_n 2, 1) := by decide +kernel
theorem dX8_kindAt_67 : decode cX8_kindAt 67 = .ok (.sipush 400, 3) := by decide +kernel
theorem dX8_kindAt_70 : decode cX8_kindAt 70 = .ok (.if_icmp .ne 6, 3) := by decide +kernel
theorem dX8_kindAt_73 : decode cX8_kindAt 73 = .ok (.bipush 23, 2) := by decide +kernel
theorem dX8_kindAt_75 : decode cX8_kindAt 75 = .ok (.ireturn, 1) := by decide +kernel
theorem dX8_kindAt_76 : decode cX8_kindAt 76 = .ok (.iload_n 3, 1) := by decide +kernel
theorem dX8_kindAt_77 : decode cX8_kindAt 77 = .ok (.invokestatic 220, 3) := by decide +kernel
theorem dX8_kindAt_80 : decode cX8_kindAt 80 = .ok (.ifCond .eq 27, 3) := by decide +kernel
theorem dX8_kindAt_83 : decode cX8_kindAt 83 = .ok (.iload 4, 2) := by decide +kernel
theorem dX8_kindAt_85 : decode cX8_kindAt 85 = .ok (.iload_n 1, 1) := by decide +kernel
theorem dX8_kindAt_86 : decode cX8_kindAt 86 = .ok (.isub, 1) := by decide +kernel
theorem dX8_kindAt_87 : decode cX8_kindAt 87 = .ok (.bipush 10, 2) := by decide +kernel
theorem dX8_kindAt_89 : decode cX8_kindAt 89 = .ok (.if_icmp .le 8, 3) := by decide +kernel
theorem dX8_kindAt_92 : decode cX8_kindAt 92 = .ok (.bipush 23, 2) := by decide +kernel
theorem dX8_kindAt_94 : decode cX8_kindAt 94 = .ok (.goto 12, 3) := by decide +kernel
theorem dX8_kindAt_97 : decode cX8_kindAt 97 = .ok (.aload_n 0, 1) := by decide +kernel
theorem dX8_kindAt_98 : decode cX8_kindAt 98 = .ok (.iload_n 1, 1) := by decide +kernel
theorem dX8_kindAt_99 : decode cX8_kindAt 99 = .ok (.iload 4, 2) := by decide +kernel
theorem dX8_kindAt_101 : decode cX8_kindAt 101 = .ok (.iload_n 1, 1) := by decide +kernel
theorem dX8_kindAt_102 : decode cX8_kindAt 102 = .ok (.isub, 1) := by decide +kernel
theorem dX8_kindAt_103 : decode cX8_kindAt 103 = .ok (.invokevirtual 226, 3) := by decide +kernel
theorem dX8_kindAt_106 : decode cX8_kindAt 106 = .ok (.ireturn, 1) := by decide +kernel
theorem dX8_kindAt_107 : decode cX8_kindAt 107 = .ok (.iload_n 3, 1) := by decide +kernel
theorem dX8_kindAt_108 : decode cX8_kindAt 108 = .ok (.bipush 59, 2) := by decide +kernel
theorem dX8_kindAt_110 : decode cX8_kindAt 110 = .ok (.if_icmp .ne 8, 3) := by decide +kernel
theorem dX8_kindAt_113 : decode cX8_kindAt 113 = .ok (.bipush 21, 2) := by decide +kernel
theorem dX8_kindAt_115 : decode cX8_kindAt 115 = .ok (.goto 5, 3) := by decide +kernel
theorem dX8_kindAt_118 : decode cX8_kindAt 118 = .ok (.bipush 23, 2) := by decide +kernel
theorem dX8_kindAt_120 : decode cX8_kindAt 120 = .ok (.ireturn, 1) := by decide +kernel
theorem dX8_readTokens_0 : decode cX8_readTokens 0 = .ok (.iconst 0, 1) := by decide +kernel
theorem dX8_readTokens_1 : decode cX8_readTokens 1 = .ok (.istore_n 1, 1) := by decide +kernel
theorem dX8_readTokens_2 : decode cX8_readTokens 2 = .ok (.iconst 0, 1) := by decide +kernel
theorem dX8_readTokens_3 : decode cX8_readTokens 3 = .ok (.istore_n 2, 1) := by decide +kernel
theorem dX8_readTokens_4 : decode cX8_readTokens 4 = .ok (.iload_n 2, 1) := by decide +kernel
theorem dX8_readTokens_5 : decode cX8_readTokens 5 = .ok (.sipush 400, 3) := by decide +kernel
theorem dX8_readTokens_8 : decode cX8_readTokens 8 = .ok (.if_icmp .gt 75, 3) := by decide +kernel
theorem dX8_readTokens_11 : decode cX8_readTokens 11 = .ok (.aload_n 0, 1) := by decide +kernel
theorem dX8_readTokens_12 : decode cX8_readTokens 12 = .ok (.iload_n 1, 1) := by decide +kernel
theorem dX8_readTokens_13 : decode cX8_readTokens 13 = .ok (.invokevirtual 217, 3) := by decide +kernel
theorem dX8_readTokens_16 : decode cX8_readTokens 16 = .ok (.bipush 32, 2) := by decide +kernel
theorem dX8_readTokens_18 : decode cX8_readTokens 18 = .ok (.if_icmp .eq 13, 3) := by decide +kernel
theorem dX8_readTokens_21 : decode cX8_readTokens 21 = .ok (.aload_n 0, 1) := by decide +kernel
theorem dX8_readTokens_22 : decode cX8_readTokens 22 = .ok (.iload_n 1, 1) := by decide +kernel
theorem dX8_readTokens_23 : decode cX8_readTokens 23 = .ok (.invokevirtual 217, 3) := by decide +kernel
theorem dX8_readTokens_26 : decode cX8_readTokens 26 = .ok (.bipush 10, 2) := by decide +kernel
theorem dX8_readTokens_28 : decode cX8_readTokens 28 = .ok (.if_icmp .ne 9, 3) := by decide +kernel
theorem dX8_readTokens_31 : decode cX8_readTokens 31 = .ok (.iinc 1 1, 3) := by decide +kernel
theorem dX8_readTokens_34 : decode cX8_readTokens 34 = .ok (.goto (-23), 3) := by decide +kernel
theorem dX8_readTokens_37 : decode cX8_readTokens 37 = .ok (.aload_n 0, 1) := by decide +kernel
theorem dX8_readTokens_38 : decode cX8_readTokens 38 = .ok (.getfield 60, 3) := by decide +kernel
theorem dX8_readTokens_41 : decode cX8_readTokens 41 = .ok (.iload_n 2, 1) := by decide +kernel
theorem dX8_readTokens_42 : decode cX8_readTokens 42 = .ok (.iload_n 1, 1) := by decide +kernel
theorem dX8_readTokens_43 : decode cX8_readTokens 43 = .ok (.iastore, 1) := by decide +kernel
theorem dX8_readTokens_44 : decode cX8_readTokens 44 = .ok (.aload_n 0, 1) := by decide +kernel
theorem dX8_readTokens_45 : decode cX8_readTokens 45 = .ok (.getfield 57, 3) := by decide +kernel
theorem dX8_readTokens_48 : decode cX8_readTokens 48 = .ok (.iload_n 2, 1) := by decide +kernel
theorem dX8_readTokens_49 : decode cX8_readTokens 49 = .ok (.aload_n 0, 1) := by decide +kernel
theorem dX8_readTokens_50 : decode cX8_readTokens 50 = .ok (.iload_n 1, 1) := by decide +kernel
theorem dX8_readTokens_51 : decode cX8_readTokens 51 = .ok (.iload_n 2, 1) := by decide +kernel
theorem dX8_readTokens_52 : decode cX8_readTokens 52 = .ok (.invokevirtual 229, 3) := by decide +kernel
theorem dX8_readTokens_55 : decode cX8_readTokens 55 = .ok (.iastore, 1) := by decide +kernel
theorem dX8_readTokens_56 : decode cX8_readTokens 56 = .ok (.aload_n 0, 1) := by decide +kernel
theorem dX8_readTokens_57 : decode cX8_readTokens 57 = .ok (.getfield 57, 3) := by decide +kernel
theorem dX8_readTokens_60 : decode cX8_readTokens 60 = .ok (.iload_n 2, 1) := by decide +kernel
theorem dX8_readTokens_61 : decode cX8_readTokens 61 = .ok (.iaload, 1) := by decide +kernel
theorem dX8_readTokens_62 : decode cX8_readTokens 62 = .ok (.bipush 22, 2) := by decide +kernel
theorem dX8_readTokens_64 : decode cX8_readTokens 64 = .ok (.if_icmp .lt 4, 3) := by decide +kernel
theorem dX8_readTokens_67 : decode cX8_readTokens 67 = .ok (.return_, 1) := by decide +kernel
theorem dX8_readTokens_68 : decode cX8_readTokens 68 = .ok (.iload_n 1, 1) := by decide +kernel
theorem dX8_readTokens_69 : decode cX8_readTokens 69 = .ok (.aload_n 0, 1) := by decide +kernel
theorem dX8_readTokens_70 : decode cX8_readTokens 70 = .ok (.getfield 63, 3) := by decide +kernel
theorem dX8_readTokens_73 : decode cX8_readTokens 73 = .ok (.iload_n 2, 1) := by decide +kernel
theorem dX8_readTokens_74 : decode cX8_readTokens 74 = .ok (.iaload, 1) := by decide +kernel
theorem dX8_readTokens_75 : decode cX8_readTokens 75 = .ok (.iadd, 1) := by decide +kernel
theorem dX8_readTokens_76 : decode cX8_readTokens 76 = .ok (.istore_n 1, 1) := by decide +kernel
theorem dX8_readTokens_77 : decode cX8_readTokens 77 = .ok (.iinc 2 1, 3) := by decide +kernel
theorem dX8_readTokens_80 : decode cX8_readTokens 80 = .ok (.goto (-76), 3) := by decide +kernel
theorem dX8_readTokens_83 : decode cX8_readTokens 83 = .ok (.return_, 1) := by decide +kernel
theorem dX8_eat_0 : decode cX8_eat 0 = .ok (.aload_n 0, 1) := by decide +kernel
theorem dX8_eat_1 : decode cX8_eat 1 = .ok (.getfield 57, 3) := by decide +kernel
theorem dX8_eat_4 : decode cX8_eat 4 = .ok (.aload_n 0, 1) := by decide +kernel
theorem dX8_eat_5 : decode cX8_eat 5 = .ok (.getfield 232, 3) := by decide +kernel
theorem dX8_eat_8 : decode cX8_eat 8 = .ok (.iaload, 1) := by decide +kernel
theorem dX8_eat_9 : decode cX8_eat 9 = .ok (.iload_n 1, 1) := by decide +kernel
theorem dX8_eat_10 : decode cX8_eat 10 = .ok (.iload_n 2, 1) := by decide +kernel
theorem dX8_eat_11 : decode cX8_eat 11 = .ok (.invokestatic 94, 3) := by decide +kernel
theorem dX8_eat_14 : decode cX8_eat 14 = .ok (.ifCond .ne 5, 3) := by decide +kernel
theorem dX8_eat_17 : decode cX8_eat 17 = .ok (.iconst 0, 1) := by decide +kernel
theorem dX8_eat_18 : decode cX8_eat 18 = .ok (.ireturn, 1) := by decide +kernel
theorem dX8_eat_19 : decode cX8_eat 19 = .ok (.aload_n 0, 1) := by decide +kernel
theorem dX8_eat_20 : decode cX8_eat 20 = .ok (.dup, 1) := by decide +kernel
theorem dX8_eat_21 : decode cX8_eat 21 = .ok (.getfield 232, 3) := by decide +kernel
theorem dX8_eat_24 : decode cX8_eat 24 = .ok (.iconst 1, 1) := by decide +kernel
theorem dX8_eat_25 : decode cX8_eat 25 = .ok (.iadd, 1) := by decide +kernel
theorem dX8_eat_26 : decode cX8_eat 26 = .ok (.putfield 232, 3) := by decide +kernel
theorem dX8_eat_29 : decode cX8_eat 29 = .ok (.iconst 1, 1) := by decide +kernel
theorem dX8_eat_30 : decode cX8_eat 30 = .ok (.ireturn, 1) := by decide +kernel
theorem dX8_eatPiece_0 : decode cX8_eatPiece 0 = .ok (.aload_n 0, 1) := by decide +kernel
theorem dX8_eatPiece_1 : decode cX8_eatPiece 1 = .ok (.bipush 7, 2) := by decide +kernel
theorem dX8_eatPiece_3 : decode cX8_eatPiece 3 = .ok (.bipush 12, 2) := by decide +kernel
theorem dX8_eatPiece_5 : decode cX8_eatPiece 5 = .ok (.invokevirtual 235, 3) := by decide +kernel
theorem dX8_eatPiece_8 : decode cX8_eatPiece 8 = .ok (.ireturn, 1) := by decide +kernel
theorem dX8_isLine_0 : decode cX8_isLine 0 = .ok (.aload_n 0, 1) := by decide +kernel
theorem dX8_isLine_1 : decode cX8_isLine 1 = .ok (.iconst 0, 1) := by decide +kernel
theorem dX8_isLine_2 : decode cX8_isLine 2 = .ok (.iconst 0, 1) := by decide +kernel
theorem dX8_isLine_3 : decode cX8_isLine 3 = .ok (.invokevirtual 235, 3) := by decide +kernel
theorem dX8_isLine_6 : decode cX8_isLine 6 = .ok (.ifCond .eq 5, 3) := by decide +kernel
theorem dX8_isLine_9 : decode cX8_isLine 9 = .ok (.iconst 1, 1) := by decide +kernel
theorem dX8_isLine_10 : decode cX8_isLine 10 = .ok (.ireturn, 1) := by decide +kernel
theorem dX8_isLine_11 : decode cX8_isLine 11 = .ok (.aload_n 0, 1) := by decide +kernel
theorem dX8_isLine_12 : decode cX8_isLine 12 = .ok (.iconst 1, 1) := by decide +kernel
theorem dX8_isLine_13 : decode cX8_isLine 13 = .ok (.iconst 1, 1) := by decide +kernel
theorem dX8_isLine_14 : decode cX8_isLine 14 = .ok (.invokevirtual 235, 3) := by decide +kernel
theorem dX8_isLine_17 : decode cX8_isLine 17 = .ok (.ifCond .eq 37, 3) := by decide +kernel
theorem dX8_isLine_20 : decode cX8_isLine 20 = .ok (.aload_n 0, 1) := by decide +kernel
theorem dX8_isLine_21 : decode cX8_isLine 21 = .ok (.iconst 5, 1) := by decide +kernel
theorem dX8_isLine_22 : decode cX8_isLine 22 = .ok (.bipush 6, 2) := by decide +kernel
theorem dX8_isLine_24 : decode cX8_isLine 24 = .ok (.invokevirtual 235, 3) := by decide +kernel
theorem dX8_isLine_27 : decode cX8_isLine 27 = .ok (.ifCond .eq 25, 3) := by decide +kernel
theorem dX8_isLine_30 : decode cX8_isLine 30 = .ok (.aload_n 0, 1) := by decide +kernel
theorem dX8_isLine_31 : decode cX8_isLine 31 = .ok (.invokevirtual 238, 3) := by decide +kernel
theorem dX8_isLine_34 : decode cX8_isLine 34 = .ok (.ifCond .eq 18, 3) := by decide +kernel
theorem dX8_isLine_37 : decode cX8_isLine 37 = .ok (.aload_n 0, 1) := by decide +kernel
theorem dX8_isLine_38 : decode cX8_isLine 38 = .ok (.bipush 20, 2) := by decide +kernel
theorem dX8_isLine_40 : decode cX8_isLine 40 = .ok (.bipush 20, 2) := by decide +kernel
theorem dX8_isLine_42 : decode cX8_isLine 42 = .ok (.invokevirtual 235, 3) := by decide +kernel
theorem dX8_isLine_45 : decode cX8_isLine 45 = .ok (.ifCond .eq 7, 3) := by decide +kernel
theorem dX8_isLine_48 : decode cX8_isLine 48 = .ok (.iconst 1, 1) := by decide +kernel
theorem dX8_isLine_49 : decode cX8_isLine 49 = .ok (.goto 4, 3) := by decide +kernel
theorem dX8_isLine_52 : decode cX8_isLine 52 = .ok (.iconst 0, 1) := by decide +kernel
theorem dX8_isLine_53 : decode cX8_isLine 53 = .ok (.ireturn, 1) := by decide +kernel
theorem dX8_isLine_54 : decode cX8_isLine 54 = .ok (.aload_n 0, 1) := by decide +kernel
theorem dX8_isLine_55 : decode cX8_isLine 55 = .ok (.iconst 2, 1) := by decide +kernel
theorem dX8_isLine_56 : decode cX8_isLine 56 = .ok (.iconst 2, 1) := by decide +kernel
theorem dX8_isLine_57 : decode cX8_isLine 57 = .ok (.invokevirtual 235, 3) := by decide +kernel
theorem dX8_isLine_60 : decode cX8_isLine 60 = .ok (.ifCond .eq 11, 3) := by decide +kernel
theorem dX8_isLine_63 : decode cX8_isLine 63 = .ok (.aload_n 0, 1) := by decide +kernel
theorem dX8_isLine_64 : decode cX8_isLine 64 = .ok (.iconst 5, 1) := by decide +kernel
theorem dX8_isLine_65 : decode cX8_isLine 65 = .ok (.bipush 6, 2) := by decide +kernel
theorem dX8_isLine_67 : decode cX8_isLine 67 = .ok (.invokevirtual 235, 3) := by decide +kernel
theorem dX8_isLine_70 : decode cX8_isLine 70 = .ok (.ireturn, 1) := by decide +kernel
theorem dX8_isLine_71 : decode cX8_isLine 71 = .ok (.aload_n 0, 1) := by decide +kernel
theorem dX8_isLine_72 : decode cX8_isLine 72 = .ok (.iconst 3, 1) := by decide +kernel
theorem dX8_isLine_73 : decode cX8_isLine 73 = .ok (.iconst 3, 1) := by decide +kernel
theorem dX8_isLine_74 : decode cX8_isLine 74 = .ok (.invokevirtual 235, 3) := by decide +kernel
theorem dX8_isLine_77 : decode cX8_isLine 77 = .ok (.ifCond .eq 45, 3) := by decide +kernel
theorem dX8_isLine_80 : decode cX8_isLine 80 = .ok (.aload_n 0, 1) := by decide +kernel
theorem dX8_isLine_81 : decode cX8_isLine 81 = .ok (.bipush 20, 2) := by decide +kernel
theorem dX8_isLine_83 : decode cX8_isLine 83 = .ok (.bipush 20, 2) := by decide +kernel
theorem dX8_isLine_85 : decode cX8_isLine 85 = .ok (.invokevirtual 235, 3) := by decide +kernel
theorem dX8_isLine_88 : decode cX8_isLine 88 = .ok (.ifCond .eq 34, 3) := by decide +kernel
theorem dX8_isLine_91 : decode cX8_isLine 91 = .ok (.aload_n 0, 1) := by decide +kernel
theorem dX8_isLine_92 : decode cX8_isLine 92 = .ok (.bipush 20, 2) := by decide +kernel
theorem dX8_isLine_94 : decode cX8_isLine 94 = .ok (.bipush 20, 2) := by decide +kernel
theorem dX8_isLine_96 : decode cX8_isLine 96 = .ok (.invokevirtual 235, 3) := by decide +kernel
theorem dX8_isLine_99 : decode cX8_isLine 99 = .ok (.ifCond .eq 23, 3) := by decide +kernel
theorem dX8_isLine_102 : decode cX8_isLine 102 = .ok (.aload_n 0, 1) := by decide +kernel
theorem dX8_isLine_103 : decode cX8_isLine 103 = .ok (.iconst 4, 1) := by decide +kernel
theorem dX8_isLine_104 : decode cX8_isLine 104 = .ok (.iconst 4, 1) := by decide +kernel
theorem dX8_isLine_105 : decode cX8_isLine 105 = .ok (.invokevirtual 235, 3) := by decide +kernel
theorem dX8_isLine_108 : decode cX8_isLine 108 = .ok (.ifCond .eq 10, 3) := by decide +kernel
theorem dX8_isLine_111 : decode cX8_isLine 111 = .ok (.aload_n 0, 1) := by decide +kernel
theorem dX8_isLine_112 : decode cX8_isLine 112 = .ok (.invokevirtual 238, 3) := by decide +kernel
theorem dX8_isLine_115 : decode cX8_isLine 115 = .ok (.ifCond .eq 7, 3) := by decide +kernel
theorem dX8_isLine_118 : decode cX8_isLine 118 = .ok (.iconst 1, 1) := by decide +kernel
theorem dX8_isLine_119 : decode cX8_isLine 119 = .ok (.goto 4, 3) := by decide +kernel
theorem dX8_isLine_122 : decode cX8_isLine 122 = .ok (.iconst 0, 1) := by decide +kernel
theorem dX8_isLine_123 : decode cX8_isLine 123 = .ok (.ireturn, 1) := by decide +kernel
theorem dX8_isGame_0 : decode cX8_isGame 0 = .ok (.aload_n 0, 1) := by decide +kernel
theorem dX8_isGame_1 : decode cX8_isGame 1 = .ok (.iconst 0, 1) := by decide +kernel
theorem dX8_isGame_2 : decode cX8_isGame 2 = .ok (.putfield 232, 3) := by decide +kernel
theorem dX8_isGame_5 : decode cX8_isGame 5 = .ok (.aload_n 0, 1) := by decide +kernel
theorem dX8_isGame_6 : decode cX8_isGame 6 = .ok (.getfield 57, 3) := by decide +kernel
theorem dX8_isGame_9 : decode cX8_isGame 9 = .ok (.aload_n 0, 1) := by decide +kernel
theorem dX8_isGame_10 : decode cX8_isGame 10 = .ok (.getfield 232, 3) := by decide +kernel
theorem dX8_isGame_13 : decode cX8_isGame 13 = .ok (.iaload, 1) := by decide +kernel
theorem dX8_isGame_14 : decode cX8_isGame 14 = .ok (.bipush 22, 2) := by decide +kernel
theorem dX8_isGame_16 : decode cX8_isGame 16 = .ok (.if_icmp .eq 23, 3) := by decide +kernel
theorem dX8_isGame_19 : decode cX8_isGame 19 = .ok (.aload_n 0, 1) := by decide +kernel
theorem dX8_isGame_20 : decode cX8_isGame 20 = .ok (.invokevirtual 241, 3) := by decide +kernel
theorem dX8_isGame_23 : decode cX8_isGame 23 = .ok (.ifCond .eq 14, 3) := by decide +kernel
theorem dX8_isGame_26 : decode cX8_isGame 26 = .ok (.aload_n 0, 1) := by decide +kernel
theorem dX8_isGame_27 : decode cX8_isGame 27 = .ok (.bipush 21, 2) := by decide +kernel
theorem dX8_isGame_29 : decode cX8_isGame 29 = .ok (.bipush 21, 2) := by decide +kernel
theorem dX8_isGame_31 : decode cX8_isGame 31 = .ok (.invokevirtual 235, 3) := by decide +kernel
theorem dX8_isGame_34 : decode cX8_isGame 34 = .ok (.ifCond .ne (-29), 3) := by decide +kernel
theorem dX8_isGame_37 : decode cX8_isGame 37 = .ok (.iconst 0, 1) := by decide +kernel
theorem dX8_isGame_38 : decode cX8_isGame 38 = .ok (.ireturn, 1) := by decide +kernel
theorem dX8_isGame_39 : decode cX8_isGame 39 = .ok (.iconst 1, 1) := by decide +kernel
theorem dX8_isGame_40 : decode cX8_isGame 40 = .ok (.ireturn, 1) := by decide +kernel
theorem dX8_wrong_0 : decode cX8_wrong 0 = .ok (.aload_n 0, 1) := by decide +kernel
theorem dX8_wrong_1 : decode cX8_wrong 1 = .ok (.aload_n 0, 1) := by decide +kernel
theorem dX8_wrong_2 : decode cX8_wrong 2 = .ok (.getfield 60, 3) := by decide +kernel
theorem dX8_wrong_5 : decode cX8_wrong 5 = .ok (.iload_n 2, 1) := by decide +kernel
theorem dX8_wrong_6 : decode cX8_wrong 6 = .ok (.iaload, 1) := by decide +kernel
theorem dX8_wrong_7 : decode cX8_wrong 7 = .ok (.putfield 13, 3) := by decide +kernel
theorem dX8_wrong_10 : decode cX8_wrong 10 = .ok (.iload_n 1, 1) := by decide +kernel
theorem dX8_wrong_11 : decode cX8_wrong 11 = .ok (.ireturn, 1) := by decide +kernel
theorem dX8_namedBy_0 : decode cX8_namedBy 0 = .ok (.aload_n 0, 1) := by decide +kernel
theorem dX8_namedBy_1 : decode cX8_namedBy 1 = .ok (.getfield 9, 3) := by decide +kernel
theorem dX8_namedBy_4 : decode cX8_namedBy 4 = .ok (.aload_n 0, 1) := by decide +kernel
theorem dX8_namedBy_5 : decode cX8_namedBy 5 = .ok (.getfield 60, 3) := by decide +kernel
theorem dX8_namedBy_8 : decode cX8_namedBy 8 = .ok (.iload_n 1, 1) := by decide +kernel
theorem dX8_namedBy_9 : decode cX8_namedBy 9 = .ok (.iaload, 1) := by decide +kernel
theorem dX8_namedBy_10 : decode cX8_namedBy 10 = .ok (.iaload, 1) := by decide +kernel
theorem dX8_namedBy_11 : decode cX8_namedBy 11 = .ok (.bipush 97, 2) := by decide +kernel
theorem dX8_namedBy_13 : decode cX8_namedBy 13 = .ok (.isub, 1) := by decide +kernel
theorem dX8_namedBy_14 : decode cX8_namedBy 14 = .ok (.istore_n 2, 1) := by decide +kernel
theorem dX8_namedBy_15 : decode cX8_namedBy 15 = .ok (.iconst 0, 1) := by decide +kernel
theorem dX8_namedBy_16 : decode cX8_namedBy 16 = .ok (.istore_n 3, 1) := by decide +kernel
theorem dX8_namedBy_17 : decode cX8_namedBy 17 = .ok (.iconst 1, 1) := by decide +kernel
theorem dX8_namedBy_18 : decode cX8_namedBy 18 = .ok (.istore 4, 2) := by decide +kernel
theorem dX8_namedBy_20 : decode cX8_namedBy 20 = .ok (.iload 4, 2) := by decide +kernel
theorem dX8_namedBy_22 : decode cX8_namedBy 22 = .ok (.aload_n 0, 1) := by decide +kernel
theorem dX8_namedBy_23 : decode cX8_namedBy 23 = .ok (.getfield 63, 3) := by decide +kernel
theorem dX8_namedBy_26 : decode cX8_namedBy 26 = .ok (.iload_n 1, 1) := by decide +kernel
theorem dX8_namedBy_27 : decode cX8_namedBy 27 = .ok (.iaload, 1) := by decide +kernel
theorem dX8_namedBy_28 : decode cX8_namedBy 28 = .ok (.if_icmp .ge 66, 3) := by decide +kernel
theorem dX8_namedBy_31 : decode cX8_namedBy 31 = .ok (.aload_n 0, 1) := by decide +kernel
theorem dX8_namedBy_32 : decode cX8_namedBy 32 = .ok (.getfield 9, 3) := by decide +kernel
theorem dX8_namedBy_35 : decode cX8_namedBy 35 = .ok (.aload_n 0, 1) := by decide +kernel
theorem dX8_namedBy_36 : decode cX8_namedBy 36 = .ok (.getfield 60, 3) := by decide +kernel
theorem dX8_namedBy_39 : decode cX8_namedBy 39 = .ok (.iload_n 1, 1) := by decide +kernel
theorem dX8_namedBy_40 : decode cX8_namedBy 40 = .ok (.iaload, 1) := by decide +kernel
theorem dX8_namedBy_41 : decode cX8_namedBy 41 = .ok (.iload 4, 2) := by decide +kernel
theorem dX8_namedBy_43 : decode cX8_namedBy 43 = .ok (.iadd, 1) := by decide +kernel
theorem dX8_namedBy_44 : decode cX8_namedBy 44 = .ok (.iaload, 1) := by decide +kernel
theorem dX8_namedBy_45 : decode cX8_namedBy 45 = .ok (.bipush 48, 2) := by decide +kernel
theorem dX8_namedBy_47 : decode cX8_namedBy 47 = .ok (.isub, 1) := by decide +kernel
theorem dX8_namedBy_48 : decode cX8_namedBy 48 = .ok (.istore 5, 2) := by decide +kernel
theorem dX8_namedBy_50 : decode cX8_namedBy 50 = .ok (.iload 5, 2) := by decide +kernel
theorem dX8_namedBy_52 : decode cX8_namedBy 52 = .ok (.iconst 0, 1) := by decide +kernel
theorem dX8_namedBy_53 : decode cX8_namedBy 53 = .ok (.bipush 9, 2) := by decide +kernel
theorem dX8_namedBy_55 : decode cX8_namedBy 55 = .ok (.invokestatic 94, 3) := by decide +kernel
theorem dX8_namedBy_58 : decode cX8_namedBy 58 = .ok (.ifCond .eq 20, 3) := by decide +kernel
theorem dX8_namedBy_61 : decode cX8_namedBy 61 = .ok (.iload 4, 2) := by decide +kernel
theorem dX8_namedBy_63 : decode cX8_namedBy 63 = .ok (.iconst 1, 1) := by decide +kernel
theorem dX8_namedBy_64 : decode cX8_namedBy 64 = .ok (.if_icmp .ne 8, 3) := by decide +kernel
theorem dX8_namedBy_67 : decode cX8_namedBy 67 = .ok (.iload 5, 2) := by decide +kernel
theorem dX8_namedBy_69 : decode cX8_namedBy 69 = .ok (.ifCond .eq 9, 3) := by decide +kernel
theorem dX8_namedBy_72 : decode cX8_namedBy 72 = .ok (.iload_n 3, 1) := by decide +kernel
theorem dX8_namedBy_73 : decode cX8_namedBy 73 = .ok (.bipush 99, 2) := by decide +kernel
theorem dX8_namedBy_75 : decode cX8_namedBy 75 = .ok (.if_icmp .le 5, 3) := by decide +kernel
theorem dX8_namedBy_78 : decode cX8_namedBy 78 = .ok (.iconst (-1), 1) := by decide +kernel
theorem dX8_namedBy_79 : decode cX8_namedBy 79 = .ok (.ireturn, 1) := by decide +kernel
theorem dX8_namedBy_80 : decode cX8_namedBy 80 = .ok (.bipush 10, 2) := by decide +kernel
theorem dX8_namedBy_82 : decode cX8_namedBy 82 = .ok (.iload_n 3, 1) := by decide +kernel
theorem dX8_namedBy_83 : decode cX8_namedBy 83 = .ok (.imul, 1) := by decide +kernel
theorem dX8_namedBy_84 : decode cX8_namedBy 84 = .ok (.iload 5, 2) := by decide +kernel
theorem dX8_namedBy_86 : decode cX8_namedBy 86 = .ok (.iadd, 1) := by decide +kernel
theorem dX8_namedBy_87 : decode cX8_namedBy 87 = .ok (.istore_n 3, 1) := by decide +kernel
theorem dX8_namedBy_88 : decode cX8_namedBy 88 = .ok (.iinc 4 1, 3) := by decide +kernel
theorem dX8_namedBy_91 : decode cX8_namedBy 91 = .ok (.goto (-71), 3) := by decide +kernel
theorem dX8_namedBy_94 : decode cX8_namedBy 94 = .ok (.iload_n 2, 1) := by decide +kernel
theorem dX8_namedBy_95 : decode cX8_namedBy 95 = .ok (.bipush 11, 2) := by decide +kernel
theorem dX8_namedBy_97 : decode cX8_namedBy 97 = .ok (.if_icmp .ge 15, 3) := by decide +kernel
theorem dX8_namedBy_100 : decode cX8_namedBy 100 = .ok (.iload_n 3, 1) := by decide +kernel
theorem dX8_namedBy_101 : decode cX8_namedBy 101 = .ok (.iconst 1, 1) := by decide +kernel
theorem dX8_namedBy_102 : decode cX8_namedBy 102 = .ok (.iload_n 2, 1) := by decide +kernel
theorem dX8_namedBy_103 : decode cX8_namedBy 103 = .ok (.invokestatic 66, 3) := by decide +kernel
theorem dX8_namedBy_106 : decode cX8_namedBy 106 = .ok (.invokestatic 94, 3) := by decide +kernel
theorem dX8_namedBy_109 : decode cX8_namedBy 109 = .ok (.ifCond .ne 7, 3) := by decide +kernel
theorem dX8_namedBy_112 : decode cX8_namedBy 112 = .ok (.iconst (-1), 1) := by decide +kernel
theorem dX8_namedBy_113 : decode cX8_namedBy 113 = .ok (.goto 13, 3) := by decide +kernel
theorem dX8_namedBy_116 : decode cX8_namedBy 116 = .ok (.aload_n 0, 1) := by decide +kernel
theorem dX8_namedBy_117 : decode cX8_namedBy 117 = .ok (.getfield 23, 3) := by decide +kernel
theorem dX8_namedBy_120 : decode cX8_namedBy 120 = .ok (.iload_n 2, 1) := by decide +kernel
theorem dX8_namedBy_121 : decode cX8_namedBy 121 = .ok (.iaload, 1) := by decide +kernel
theorem dX8_namedBy_122 : decode cX8_namedBy 122 = .ok (.iload_n 3, 1) := by decide +kernel
theorem dX8_namedBy_123 : decode cX8_namedBy 123 = .ok (.iadd, 1) := by decide +kernel
theorem dX8_namedBy_124 : decode cX8_namedBy 124 = .ok (.iconst 1, 1) := by decide +kernel
theorem dX8_namedBy_125 : decode cX8_namedBy 125 = .ok (.isub, 1) := by decide +kernel
theorem dX8_namedBy_126 : decode cX8_namedBy 126 = .ok (.ireturn, 1) := by decide +kernel
theorem dX8_begin_0 : decode cX8_begin 0 = .ok (.aload_n 0, 1) := by decide +kernel
theorem dX8_begin_1 : decode cX8_begin 1 = .ok (.iconst 0, 1) := by decide +kernel
theorem dX8_begin_2 : decode cX8_begin 2 = .ok (.putfield 153, 3) := by decide +kernel
theorem dX8_begin_5 : decode cX8_begin 5 = .ok (.aload_n 0, 1) := by decide +kernel
theorem dX8_begin_6 : decode cX8_begin 6 = .ok (.iconst (-1), 1) := by decide +kernel
theorem dX8_begin_7 : decode cX8_begin 7 = .ok (.putfield 35, 3) := by decide +kernel
theorem dX8_begin_10 : decode cX8_begin 10 = .ok (.aload_n 0, 1) := by decide +kernel
theorem dX8_begin_11 : decode cX8_begin 11 = .ok (.iconst 0, 1) := by decide +kernel
theorem dX8_begin_12 : decode cX8_begin 12 = .ok (.putfield 162, 3) := by decide +kernel
theorem dX8_begin_15 : decode cX8_begin 15 = .ok (.aload_n 0, 1) := by decide +kernel
theorem dX8_begin_16 : decode cX8_begin 16 = .ok (.iload_n 1, 1) := by decide +kernel
theorem dX8_begin_17 : decode cX8_begin 17 = .ok (.putfield 125, 3) := by decide +kernel
theorem dX8_begin_20 : decode cX8_begin 20 = .ok (.return_, 1) := by decide +kernel
theorem dX8_empty_0 : decode cX8_empty 0 = .ok (.iconst 0, 1) := by decide +kernel
theorem dX8_empty_1 : decode cX8_empty 1 = .ok (.istore_n 1, 1) := by decide +kernel
theorem dX8_empty_2 : decode cX8_empty 2 = .ok (.iload_n 1, 1) := by decide +kernel
theorem dX8_empty_3 : decode cX8_empty 3 = .ok (.bipush 91, 2) := by decide +kernel
theorem dX8_empty_5 : decode cX8_empty 5 = .ok (.if_icmp .ge 16, 3) := by decide +kernel
theorem dX8_empty_8 : decode cX8_empty 8 = .ok (.aload_n 0, 1) := by decide +kernel
theorem dX8_empty_9 : decode cX8_empty 9 = .ok (.getfield 32, 3) := by decide +kernel
theorem dX8_empty_12 : decode cX8_empty 12 = .ok (.iload_n 1, 1) := by decide +kernel
theorem dX8_empty_13 : decode cX8_empty 13 = .ok (.iconst 0, 1) := by decide +kernel
theorem dX8_empty_14 : decode cX8_empty 14 = .ok (.iastore, 1) := by decide +kernel
theorem dX8_empty_15 : decode cX8_empty 15 = .ok (.iinc 1 1, 3) := by decide +kernel
theorem dX8_empty_18 : decode cX8_empty 18 = .ok (.goto (-16), 3) := by decide +kernel
theorem dX8_empty_21 : decode cX8_empty 21 = .ok (.aload_n 0, 1) := by decide +kernel
theorem dX8_empty_22 : decode cX8_empty 22 = .ok (.iconst 0, 1) := by decide +kernel
theorem dX8_empty_23 : decode cX8_empty 23 = .ok (.invokevirtual 244, 3) := by decide +kernel
theorem dX8_empty_26 : decode cX8_empty 26 = .ok (.return_, 1) := by decide +kernel
theorem dX8_place_0 : decode cX8_place 0 = .ok (.aload_n 0, 1) := by decide +kernel
theorem dX8_place_1 : decode cX8_place 1 = .ok (.getfield 32, 3) := by decide +kernel
theorem dX8_place_4 : decode cX8_place 4 = .ok (.aload_n 0, 1) := by decide +kernel
theorem dX8_place_5 : decode cX8_place 5 = .ok (.getfield 23, 3) := by decide +kernel
theorem dX8_place_8 : decode cX8_place 8 = .ok (.iload_n 1, 1) := by decide +kernel
theorem dX8_place_9 : decode cX8_place 9 = .ok (.iaload, 1) := by decide +kernel
theorem dX8_place_10 : decode cX8_place 10 = .ok (.iload_n 2, 1) := by decide +kernel
theorem dX8_place_11 : decode cX8_place 11 = .ok (.iadd, 1) := by decide +kernel
theorem dX8_place_12 : decode cX8_place 12 = .ok (.iconst 1, 1) := by decide +kernel
theorem dX8_place_13 : decode cX8_place 13 = .ok (.isub, 1) := by decide +kernel
theorem dX8_place_14 : decode cX8_place 14 = .ok (.iload_n 3, 1) := by decide +kernel
theorem dX8_place_15 : decode cX8_place 15 = .ok (.iastore, 1) := by decide +kernel
theorem dX8_place_16 : decode cX8_place 16 = .ok (.return_, 1) := by decide +kernel
theorem dX8_setUp_0 : decode cX8_setUp 0 = .ok (.aload_n 0, 1) := by decide +kernel
theorem dX8_setUp_1 : decode cX8_setUp 1 = .ok (.invokevirtual 247, 3) := by decide +kernel
theorem dX8_setUp_4 : decode cX8_setUp 4 = .ok (.iconst 0, 1) := by decide +kernel
theorem dX8_setUp_5 : decode cX8_setUp 5 = .ok (.istore_n 1, 1) := by decide +kernel
theorem dX8_setUp_6 : decode cX8_setUp 6 = .ok (.iload_n 1, 1) := by decide +kernel
theorem dX8_setUp_7 : decode cX8_setUp 7 = .ok (.bipush 91, 2) := by decide +kernel
theorem dX8_setUp_9 : decode cX8_setUp 9 = .ok (.if_icmp .ge 44, 3) := by decide +kernel
theorem dX8_setUp_12 : decode cX8_setUp 12 = .ok (.aload_n 0, 1) := by decide +kernel
theorem dX8_setUp_13 : decode cX8_setUp 13 = .ok (.getfield 32, 3) := by decide +kernel
theorem dX8_setUp_16 : decode cX8_setUp 16 = .ok (.iload_n 1, 1) := by decide +kernel
theorem dX8_setUp_17 : decode cX8_setUp 17 = .ok (.aload_n 0, 1) := by decide +kernel
theorem dX8_setUp_18 : decode cX8_setUp 18 = .ok (.iload_n 1, 1) := by decide +kernel
theorem dX8_setUp_19 : decode cX8_setUp 19 = .ok (.iconst 0, 1) := by decide +kernel
theorem dX8_setUp_20 : decode cX8_setUp 20 = .ok (.invokevirtual 132, 3) := by decide +kernel
theorem dX8_setUp_23 : decode cX8_setUp 23 = .ok (.ifCond .eq 8, 3) := by decide +kernel
theorem dX8_setUp_26 : decode cX8_setUp 26 = .ok (.bipush 6, 2) := by decide +kernel
theorem dX8_setUp_28 : decode cX8_setUp 28 = .ok (.goto 18, 3) := by decide +kernel
theorem dX8_setUp_31 : decode cX8_setUp 31 = .ok (.aload_n 0, 1) := by decide +kernel
theorem dX8_setUp_32 : decode cX8_setUp 32 = .ok (.iload_n 1, 1) := by decide +kernel
theorem dX8_setUp_33 : decode cX8_setUp 33 = .ok (.iconst 1, 1) := by decide +kernel
theorem dX8_setUp_34 : decode cX8_setUp 34 = .ok (.invokevirtual 132, 3) := by decide +kernel
theorem dX8_setUp_37 : decode cX8_setUp 37 = .ok (.ifCond .eq 8, 3) := by decide +kernel
theorem dX8_setUp_40 : decode cX8_setUp 40 = .ok (.bipush 16, 2) := by decide +kernel
theorem dX8_setUp_42 : decode cX8_setUp 42 = .ok (.goto 4, 3) := by decide +kernel
theorem dX8_setUp_45 : decode cX8_setUp 45 = .ok (.iconst 0, 1) := by decide +kernel
theorem dX8_setUp_46 : decode cX8_setUp 46 = .ok (.iastore, 1) := by decide +kernel
theorem dX8_setUp_47 : decode cX8_setUp 47 = .ok (.iinc 1 1, 3) := by decide +kernel
theorem dX8_setUp_50 : decode cX8_setUp 50 = .ok (.goto (-44), 3) := by decide +kernel
theorem dX8_setUp_53 : decode cX8_setUp 53 = .ok (.iconst 0, 1) := by decide +kernel
theorem dX8_setUp_54 : decode cX8_setUp 54 = .ok (.istore_n 1, 1) := by decide +kernel
theorem dX8_setUp_55 : decode cX8_setUp 55 = .ok (.iload_n 1, 1) := by decide +kernel
theorem dX8_setUp_56 : decode cX8_setUp 56 = .ok (.iconst 3, 1) := by decide +kernel
theorem dX8_setUp_57 : decode cX8_setUp 57 = .ok (.if_icmp .ge 29, 3) := by decide +kernel
theorem dX8_setUp_60 : decode cX8_setUp 60 = .ok (.aload_n 0, 1) := by decide +kernel
theorem dX8_setUp_61 : decode cX8_setUp 61 = .ok (.iconst 5, 1) := by decide +kernel
theorem dX8_setUp_62 : decode cX8_setUp 62 = .ok (.iconst 1, 1) := by decide +kernel
theorem dX8_setUp_63 : decode cX8_setUp 63 = .ok (.iload_n 1, 1) := by decide +kernel
theorem dX8_setUp_64 : decode cX8_setUp 64 = .ok (.iadd, 1) := by decide +kernel
theorem dX8_setUp_65 : decode cX8_setUp 65 = .ok (.iconst 4, 1) := by decide +kernel
theorem dX8_setUp_66 : decode cX8_setUp 66 = .ok (.invokevirtual 250, 3) := by decide +kernel
theorem dX8_setUp_69 : decode cX8_setUp 69 = .ok (.aload_n 0, 1) := by decide +kernel
theorem dX8_setUp_70 : decode cX8_setUp 70 = .ok (.iconst 5, 1) := by decide +kernel
theorem dX8_setUp_71 : decode cX8_setUp 71 = .ok (.bipush 11, 2) := by decide +kernel
theorem dX8_setUp_73 : decode cX8_setUp 73 = .ok (.iload_n 1, 1) := by decide +kernel
theorem dX8_setUp_74 : decode cX8_setUp 74 = .ok (.isub, 1) := by decide +kernel
theorem dX8_setUp_75 : decode cX8_setUp 75 = .ok (.bipush 14, 2) := by decide +kernel
theorem dX8_setUp_77 : decode cX8_setUp 77 = .ok (.invokevirtual 250, 3) := by decide +kernel
theorem dX8_setUp_80 : decode cX8_setUp 80 = .ok (.iinc 1 1, 3) := by decide +kernel
theorem dX8_setUp_83 : decode cX8_setUp 83 = .ok (.goto (-28), 3) := by decide +kernel
theorem dX8_setUp_86 : decode cX8_setUp 86 = .ok (.bipush 6, 2) := by decide +kernel
theorem dX8_setUp_88 : decode cX8_setUp 88 = .ok (.newarray .int, 2) := by decide +kernel
theorem dX8_setUp_90 : decode cX8_setUp 90 = .ok (.dup, 1) := by decide +kernel
theorem dX8_setUp_91 : decode cX8_setUp 91 = .ok (.iconst 0, 1) := by decide +kernel
theorem dX8_setUp_92 : decode cX8_setUp 92 = .ok (.iconst 2, 1) := by decide +kernel
theorem dX8_setUp_93 : decode cX8_setUp 93 = .ok (.iastore, 1) := by decide +kernel
theorem dX8_setUp_94 : decode cX8_setUp 94 = .ok (.dup, 1) := by decide +kernel
theorem dX8_setUp_95 : decode cX8_setUp 95 = .ok (.iconst 1, 1) := by decide +kernel
theorem dX8_setUp_96 : decode cX8_setUp 96 = .ok (.bipush 8, 2) := by decide +kernel
theorem dX8_setUp_98 : decode cX8_setUp 98 = .ok (.iastore, 1) := by decide +kernel
theorem dX8_setUp_99 : decode cX8_setUp 99 = .ok (.dup, 1) := by decide +kernel
theorem dX8_setUp_100 : decode cX8_setUp 100 = .ok (.iconst 2, 1) := by decide +kernel
theorem dX8_setUp_101 : decode cX8_setUp 101 = .ok (.iconst 3, 1) := by decide +kernel
theorem dX8_setUp_102 : decode cX8_setUp 102 = .ok (.iastore, 1) := by decide +kernel
theorem dX8_setUp_103 : decode cX8_setUp 103 = .ok (.dup, 1) := by decide +kernel
theorem dX8_setUp_104 : decode cX8_setUp 104 = .ok (.iconst 3, 1) := by decide +kernel
theorem dX8_setUp_105 : decode cX8_setUp 105 = .ok (.bipush 7, 2) := by decide +kernel
theorem dX8_setUp_107 : decode cX8_setUp 107 = .ok (.iastore, 1) := by decide +kernel
theorem dX8_setUp_108 : decode cX8_setUp 108 = .ok (.dup, 1) := by decide +kernel
theorem dX8_setUp_109 : decode cX8_setUp 109 = .ok (.iconst 4, 1) := by decide +kernel
theorem dX8_setUp_110 : decode cX8_setUp 110 = .ok (.iconst 4, 1) := by decide +kernel
theorem dX8_setUp_111 : decode cX8_setUp 111 = .ok (.iastore, 1) := by decide +kernel
theorem dX8_setUp_112 : decode cX8_setUp 112 = .ok (.dup, 1) := by decide +kernel
theorem dX8_setUp_113 : decode cX8_setUp 113 = .ok (.iconst 5, 1) := by decide +kernel
theorem dX8_setUp_114 : decode cX8_setUp 114 = .ok (.bipush 6, 2) := by decide +kernel
theorem dX8_setUp_116 : decode cX8_setUp 116 = .ok (.iastore, 1) := by decide +kernel
theorem dX8_setUp_117 : decode cX8_setUp 117 = .ok (.astore_n 1, 1) := by decide +kernel
theorem dX8_setUp_118 : decode cX8_setUp 118 = .ok (.bipush 6, 2) := by decide +kernel
theorem dX8_setUp_120 : decode cX8_setUp 120 = .ok (.newarray .int, 2) := by decide +kernel
theorem dX8_setUp_122 : decode cX8_setUp 122 = .ok (.dup, 1) := by decide +kernel
theorem dX8_setUp_123 : decode cX8_setUp 123 = .ok (.iconst 0, 1) := by decide +kernel
theorem dX8_setUp_124 : decode cX8_setUp 124 = .ok (.iconst 3, 1) := by decide +kernel
theorem dX8_setUp_125 : decode cX8_setUp 125 = .ok (.iastore, 1) := by decide +kernel
theorem dX8_setUp_126 : decode cX8_setUp 126 = .ok (.dup, 1) := by decide +kernel
theorem dX8_setUp_127 : decode cX8_setUp 127 = .ok (.iconst 1, 1) := by decide +kernel
theorem dX8_setUp_128 : decode cX8_setUp 128 = .ok (.iconst 3, 1) := by decide +kernel
theorem dX8_setUp_129 : decode cX8_setUp 129 = .ok (.iastore, 1) := by decide +kernel
theorem dX8_setUp_130 : decode cX8_setUp 130 = .ok (.dup, 1) := by decide +kernel
theorem dX8_setUp_131 : decode cX8_setUp 131 = .ok (.iconst 2, 1) := by decide +kernel
theorem dX8_setUp_132 : decode cX8_setUp 132 = .ok (.iconst 5, 1) := by decide +kernel
theorem dX8_setUp_133 : decode cX8_setUp 133 = .ok (.iastore, 1) := by decide +kernel
theorem dX8_setUp_134 : decode cX8_setUp 134 = .ok (.dup, 1) := by decide +kernel
theorem dX8_setUp_135 : decode cX8_setUp 135 = .ok (.iconst 3, 1) := by decide +kernel
theorem dX8_setUp_136 : decode cX8_setUp 136 = .ok (.iconst 5, 1) := by decide +kernel
theorem dX8_setUp_137 : decode cX8_setUp 137 = .ok (.iastore, 1) := by decide +kernel
theorem dX8_setUp_138 : decode cX8_setUp 138 = .ok (.dup, 1) := by decide +kernel
theorem dX8_setUp_139 : decode cX8_setUp 139 = .ok (.iconst 4, 1) := by decide +kernel
theorem dX8_setUp_140 : decode cX8_setUp 140 = .ok (.iconst 2, 1) := by decide +kernel
theorem dX8_setUp_141 : decode cX8_setUp 141 = .ok (.iastore, 1) := by decide +kernel
theorem dX8_setUp_142 : decode cX8_setUp 142 = .ok (.dup, 1) := by decide +kernel
theorem dX8_setUp_143 : decode cX8_setUp 143 = .ok (.iconst 5, 1) := by decide +kernel
theorem dX8_setUp_144 : decode cX8_setUp 144 = .ok (.iconst 1, 1) := by decide +kernel
theorem dX8_setUp_145 : decode cX8_setUp 145 = .ok (.iastore, 1) := by decide +kernel
theorem dX8_setUp_146 : decode cX8_setUp 146 = .ok (.astore_n 2, 1) := by decide +kernel
theorem dX8_setUp_147 : decode cX8_setUp 147 = .ok (.iconst 0, 1) := by decide +kernel
theorem dX8_setUp_148 : decode cX8_setUp 148 = .ok (.istore_n 3, 1) := by decide +kernel
theorem dX8_setUp_149 : decode cX8_setUp 149 = .ok (.iload_n 3, 1) := by decide +kernel
theorem dX8_setUp_150 : decode cX8_setUp 150 = .ok (.bipush 6, 2) := by decide +kernel
theorem dX8_setUp_152 : decode cX8_setUp 152 = .ok (.if_icmp .ge 39, 3) := by decide +kernel
theorem dX8_setUp_155 : decode cX8_setUp 155 = .ok (.aload_n 0, 1) := by decide +kernel
theorem dX8_setUp_156 : decode cX8_setUp 156 = .ok (.aload_n 1, 1) := by decide +kernel
theorem dX8_setUp_157 : decode cX8_setUp 157 = .ok (.iload_n 3, 1) := by decide +kernel
theorem dX8_setUp_158 : decode cX8_setUp 158 = .ok (.iaload, 1) := by decide +kernel
theorem dX8_setUp_159 : decode cX8_setUp 159 = .ok (.iconst 1, 1) := by decide +kernel
theorem dX8_setUp_160 : decode cX8_setUp 160 = .ok (.aload_n 2, 1) := by decide +kernel
theorem dX8_setUp_161 : decode cX8_setUp 161 = .ok (.iload_n 3, 1) := by decide +kernel
theorem dX8_setUp_162 : decode cX8_setUp 162 = .ok (.iaload, 1) := by decide +kernel
theorem dX8_setUp_163 : decode cX8_setUp 163 = .ok (.invokevirtual 250, 3) := by decide +kernel
theorem dX8_setUp_166 : decode cX8_setUp 166 = .ok (.aload_n 0, 1) := by decide +kernel
theorem dX8_setUp_167 : decode cX8_setUp 167 = .ok (.aload_n 1, 1) := by decide +kernel
theorem dX8_setUp_168 : decode cX8_setUp 168 = .ok (.iload_n 3, 1) := by decide +kernel
theorem dX8_setUp_169 : decode cX8_setUp 169 = .ok (.iaload, 1) := by decide +kernel
theorem dX8_setUp_170 : decode cX8_setUp 170 = .ok (.aload_n 1, 1) := by decide +kernel
theorem dX8_setUp_171 : decode cX8_setUp 171 = .ok (.iload_n 3, 1) := by decide +kernel
theorem dX8_setUp_172 : decode cX8_setUp 172 = .ok (.iaload, 1) := by decide +kernel
theorem dX8_setUp_173 : decode cX8_setUp 173 = .ok (.invokestatic 66, 3) := by decide +kernel
theorem dX8_setUp_176 : decode cX8_setUp 176 = .ok (.bipush 10, 2) := by decide +kernel
theorem dX8_setUp_178 : decode cX8_setUp 178 = .ok (.aload_n 2, 1) := by decide +kernel
theorem dX8_setUp_179 : decode cX8_setUp 179 = .ok (.iload_n 3, 1) := by decide +kernel
theorem dX8_setUp_180 : decode cX8_setUp 180 = .ok (.iaload, 1) := by decide +kernel
theorem dX8_setUp_181 : decode cX8_setUp 181 = .ok (.iadd, 1) := by decide +kernel
theorem dX8_setUp_182 : decode cX8_setUp 182 = .ok (.invokevirtual 250, 3) := by decide +kernel
theorem dX8_setUp_185 : decode cX8_setUp 185 = .ok (.iinc 3 1, 3) := by decide +kernel
theorem dX8_setUp_188 : decode cX8_setUp 188 = .ok (.goto (-39), 3) := by decide +kernel
theorem dX8_setUp_191 : decode cX8_setUp 191 = .ok (.return_, 1) := by decide +kernel
theorem dX8_piecesOf_0 : decode cX8_piecesOf 0 = .ok (.iconst 0, 1) := by decide +kernel
theorem dX8_piecesOf_1 : decode cX8_piecesOf 1 = .ok (.istore_n 2, 1) := by decide +kernel
theorem dX8_piecesOf_2 : decode cX8_piecesOf 2 = .ok (.aload_n 0, 1) := by decide +kernel
theorem dX8_piecesOf_3 : decode cX8_piecesOf 3 = .ok (.getfield 32, 3) := by decide +kernel
theorem dX8_piecesOf_6 : decode cX8_piecesOf 6 = .ok (.astore_n 3, 1) := by decide +kernel
theorem dX8_piecesOf_7 : decode cX8_piecesOf 7 = .ok (.aload_n 3, 1) := by decide +kernel
theorem dX8_piecesOf_8 : decode cX8_piecesOf 8 = .ok (.arraylength, 1) := by decide +kernel
theorem dX8_piecesOf_9 : decode cX8_piecesOf 9 = .ok (.istore 4, 2) := by decide +kernel
theorem dX8_piecesOf_11 : decode cX8_piecesOf 11 = .ok (.iconst 0, 1) := by decide +kernel
theorem dX8_piecesOf_12 : decode cX8_piecesOf 12 = .ok (.istore 5, 2) := by decide +kernel
theorem dX8_piecesOf_14 : decode cX8_piecesOf 14 = .ok (.iload 5, 2) := by decide +kernel
theorem dX8_piecesOf_16 : decode cX8_piecesOf 16 = .ok (.iload 4, 2) := by decide +kernel
theorem dX8_piecesOf_18 : decode cX8_piecesOf 18 = .ok (.if_icmp .ge 32, 3) := by decide +kernel
theorem dX8_piecesOf_21 : decode cX8_piecesOf 21 = .ok (.aload_n 3, 1) := by decide +kernel
theorem dX8_piecesOf_22 : decode cX8_piecesOf 22 = .ok (.iload 5, 2) := by decide +kernel
theorem dX8_piecesOf_24 : decode cX8_piecesOf 24 = .ok (.iaload, 1) := by decide +kernel
theorem dX8_piecesOf_25 : decode cX8_piecesOf 25 = .ok (.istore 6, 2) := by decide +kernel
theorem dX8_piecesOf_27 : decode cX8_piecesOf 27 = .ok (.iload_n 2, 1) := by decide +kernel
theorem dX8_piecesOf_28 : decode cX8_piecesOf 28 = .ok (.iload 6, 2) := by decide +kernel
theorem dX8_piecesOf_30 : decode cX8_piecesOf 30 = .ok (.invokestatic 139, 3) := by decide +kernel
theorem dX8_piecesOf_33 : decode cX8_piecesOf 33 = .ok (.iload_n 1, 1) := by decide +kernel
theorem dX8_piecesOf_34 : decode cX8_piecesOf 34 = .ok (.if_icmp .ne 7, 3) := by decide +kernel
theorem dX8_piecesOf_37 : decode cX8_piecesOf 37 = .ok (.iconst 1, 1) := by decide +kernel
theorem dX8_piecesOf_38 : decode cX8_piecesOf 38 = .ok (.goto 4, 3) := by decide +kernel
theorem dX8_piecesOf_41 : decode cX8_piecesOf 41 = .ok (.iconst 0, 1) := by decide +kernel
theorem dX8_piecesOf_42 : decode cX8_piecesOf 42 = .ok (.iadd, 1) := by decide +kernel
theorem dX8_piecesOf_43 : decode cX8_piecesOf 43 = .ok (.istore_n 2, 1) := by decide +kernel
theorem dX8_piecesOf_44 : decode cX8_piecesOf 44 = .ok (.iinc 5 1, 3) := by decide +kernel
theorem dX8_piecesOf_47 : decode cX8_piecesOf 47 = .ok (.goto (-33), 3) := by decide +kernel
theorem dX8_piecesOf_50 : decode cX8_piecesOf 50 = .ok (.iload_n 2, 1) := by decide +kernel
theorem dX8_piecesOf_51 : decode cX8_piecesOf 51 = .ok (.ireturn, 1) := by decide +kernel
theorem dX8_put_0 : decode cX8_put 0 = .ok (.aload_n 0, 1) := by decide +kernel
theorem dX8_put_1 : decode cX8_put 1 = .ok (.getfield 57, 3) := by decide +kernel
theorem dX8_put_4 : decode cX8_put 4 = .ok (.iload_n 1, 1) := by decide +kernel
theorem dX8_put_5 : decode cX8_put 5 = .ok (.iconst 1, 1) := by decide +kernel
theorem dX8_put_6 : decode cX8_put 6 = .ok (.iadd, 1) := by decide +kernel
theorem dX8_put_7 : decode cX8_put 7 = .ok (.iaload, 1) := by decide +kernel
theorem dX8_put_8 : decode cX8_put 8 = .ok (.iconst 5, 1) := by decide +kernel
theorem dX8_put_9 : decode cX8_put 9 = .ok (.isub, 1) := by decide +kernel
theorem dX8_put_10 : decode cX8_put 10 = .ok (.istore_n 2, 1) := by decide +kernel
theorem dX8_put_11 : decode cX8_put 11 = .ok (.aload_n 0, 1) := by decide +kernel
theorem dX8_put_12 : decode cX8_put 12 = .ok (.getfield 57, 3) := by decide +kernel
theorem dX8_put_15 : decode cX8_put 15 = .ok (.iload_n 1, 1) := by decide +kernel
theorem dX8_put_16 : decode cX8_put 16 = .ok (.iconst 2, 1) := by decide +kernel
theorem dX8_put_17 : decode cX8_put 17 = .ok (.iadd, 1) := by decide +kernel
theorem dX8_put_18 : decode cX8_put 18 = .ok (.iaload, 1) := by decide +kernel
theorem dX8_put_19 : decode cX8_put 19 = .ok (.bipush 7, 2) := by decide +kernel
theorem dX8_put_21 : decode cX8_put 21 = .ok (.isub, 1) := by decide +kernel
theorem dX8_put_22 : decode cX8_put 22 = .ok (.iconst 1, 1) := by decide +kernel
theorem dX8_put_23 : decode cX8_put 23 = .ok (.iadd, 1) := by decide +kernel
theorem dX8_put_24 : decode cX8_put 24 = .ok (.istore_n 3, 1) := by decide +kernel
theorem dX8_put_25 : decode cX8_put 25 = .ok (.aload_n 0, 1) := by decide +kernel
theorem dX8_put_26 : decode cX8_put 26 = .ok (.iload_n 2, 1) := by decide +kernel
theorem dX8_put_27 : decode cX8_put 27 = .ok (.invokevirtual 253, 3) := by decide +kernel
theorem dX8_put_30 : decode cX8_put 30 = .ok (.bipush 20, 2) := by decide +kernel
theorem dX8_put_32 : decode cX8_put 32 = .ok (.if_icmp .lt 12, 3) := by decide +kernel
theorem dX8_put_35 : decode cX8_put 35 = .ok (.aload_n 0, 1) := by decide +kernel
theorem dX8_put_36 : decode cX8_put 36 = .ok (.iconst 4, 1) := by decide +kernel
theorem dX8_put_37 : decode cX8_put 37 = .ok (.iload_n 1, 1) := by decide +kernel
theorem dX8_put_38 : decode cX8_put 38 = .ok (.iconst 1, 1) := by decide +kernel
theorem dX8_put_39 : decode cX8_put 39 = .ok (.iadd, 1) := by decide +kernel
theorem dX8_put_40 : decode cX8_put 40 = .ok (.invokevirtual 256, 3) := by decide +kernel
theorem dX8_put_43 : decode cX8_put 43 = .ok (.ireturn, 1) := by decide +kernel
theorem dX8_put_44 : decode cX8_put 44 = .ok (.iload_n 3, 1) := by decide +kernel
theorem dX8_put_45 : decode cX8_put 45 = .ok (.iconst 1, 1) := by decide +kernel
theorem dX8_put_46 : decode cX8_put 46 = .ok (.if_icmp .ne 21, 3) := by decide +kernel
theorem dX8_put_49 : decode cX8_put 49 = .ok (.aload_n 0, 1) := by decide +kernel
theorem dX8_put_50 : decode cX8_put 50 = .ok (.iload_n 2, 1) := by decide +kernel
theorem dX8_put_51 : decode cX8_put 51 = .ok (.invokevirtual 119, 3) := by decide +kernel
theorem dX8_put_54 : decode cX8_put 54 = .ok (.iconst (-1), 1) := by decide +kernel
theorem dX8_put_55 : decode cX8_put 55 = .ok (.if_icmp .eq 12, 3) := by decide +kernel
theorem dX8_put_58 : decode cX8_put 58 = .ok (.aload_n 0, 1) := by decide +kernel
theorem dX8_put_59 : decode cX8_put 59 = .ok (.iconst 3, 1) := by decide +kernel
theorem dX8_put_60 : decode cX8_put 60 = .ok (.iload_n 1, 1) := by decide +kernel
theorem dX8_put_61 : decode cX8_put 61 = .ok (.iconst 2, 1) := by decide +kernel
theorem dX8_put_62 : decode cX8_put 62 = .ok (.iadd, 1) := by decide +kernel
theorem dX8_put_63 : decode cX8_put 63 = .ok (.invokevirtual 256, 3) := by decide +kernel
theorem dX8_put_66 : decode cX8_put 66 = .ok (.ireturn, 1) := by decide +kernel
theorem dX8_put_67 : decode cX8_put 67 = .ok (.aload_n 0, 1) := by decide +kernel
theorem dX8_put_68 : decode cX8_put 68 = .ok (.iload_n 1, 1) := by decide +kernel
theorem dX8_put_69 : decode cX8_put 69 = .ok (.iconst 3, 1) := by decide +kernel
theorem dX8_put_70 : decode cX8_put 70 = .ok (.iadd, 1) := by decide +kernel
theorem dX8_put_71 : decode cX8_put 71 = .ok (.invokevirtual 259, 3) := by decide +kernel
theorem dX8_put_74 : decode cX8_put 74 = .ok (.istore 4, 2) := by decide +kernel
theorem dX8_put_76 : decode cX8_put 76 = .ok (.iload 4, 2) := by decide +kernel
theorem dX8_put_78 : decode cX8_put 78 = .ok (.iconst (-1), 1) := by decide +kernel
theorem dX8_put_79 : decode cX8_put 79 = .ok (.if_icmp .ne 12, 3) := by decide +kernel
theorem dX8_put_82 : decode cX8_put 82 = .ok (.aload_n 0, 1) := by decide +kernel
theorem dX8_put_83 : decode cX8_put 83 = .ok (.iconst 2, 1) := by decide +kernel
theorem dX8_put_84 : decode cX8_put 84 = .ok (.iload_n 1, 1) := by decide +kernel
theorem dX8_put_85 : decode cX8_put 85 = .ok (.iconst 3, 1) := by decide +kernel
theorem dX8_put_86 : decode cX8_put 86 = .ok (.iadd, 1) := by decide +kernel
theorem dX8_put_87 : decode cX8_put 87 = .ok (.invokevirtual 256, 3) := by decide +kernel
theorem dX8_put_90 : decode cX8_put 90 = .ok (.ireturn, 1) := by decide +kernel
theorem dX8_put_91 : decode cX8_put 91 = .ok (.aload_n 0, 1) := by decide +kernel
theorem dX8_put_92 : decode cX8_put 92 = .ok (.getfield 32, 3) := by decide +kernel
theorem dX8_put_95 : decode cX8_put 95 = .ok (.iload 4, 2) := by decide +kernel
theorem dX8_put_97 : decode cX8_put 97 = .ok (.iaload, 1) := by decide +kernel
theorem dX8_put_98 : decode cX8_put 98 = .ok (.ifCond .eq 12, 3) := by decide +kernel
theorem dX8_put_101 : decode cX8_put 101 = .ok (.aload_n 0, 1) := by decide +kernel
theorem dX8_put_102 : decode cX8_put 102 = .ok (.iconst 3, 1) := by decide +kernel
theorem dX8_put_103 : decode cX8_put 103 = .ok (.iload_n 1, 1) := by decide +kernel
theorem dX8_put_104 : decode cX8_put 104 = .ok (.iconst 3, 1) := by decide +kernel
theorem dX8_put_105 : decode cX8_put 105 = .ok (.iadd, 1) := by decide +kernel
theorem dX8_put_106 : decode cX8_put 106 = .ok (.invokevirtual 256, 3) := by decide +kernel
theorem dX8_put_109 : decode cX8_put 109 = .ok (.ireturn, 1) := by decide +kernel
theorem dX8_put_110 : decode cX8_put 110 = .ok (.aload_n 0, 1) := by decide +kernel
theorem dX8_put_111 : decode cX8_put 111 = .ok (.getfield 32, 3) := by decide +kernel
theorem dX8_put_114 : decode cX8_put 114 = .ok (.iload 4, 2) := by decide +kernel
theorem dX8_put_116 : decode cX8_put 116 = .ok (.bipush 10, 2) := by decide +kernel
theorem dX8_put_118 : decode cX8_put 118 = .ok (.iload_n 2, 1) := by decide +kernel
theorem dX8_put_119 : decode cX8_put 119 = .ok (.imul, 1) := by decide +kernel
theorem dX8_put_120 : decode cX8_put 120 = .ok (.iload_n 3, 1) := by decide +kernel
theorem dX8_put_121 : decode cX8_put 121 = .ok (.iadd, 1) := by decide +kernel
theorem dX8_put_122 : decode cX8_put 122 = .ok (.iastore, 1) := by decide +kernel
theorem dX8_put_123 : decode cX8_put 123 = .ok (.aload_n 0, 1) := by decide +kernel
theorem dX8_put_124 : decode cX8_put 124 = .ok (.aload_n 0, 1) := by decide +kernel
theorem dX8_put_125 : decode cX8_put 125 = .ok (.getfield 125, 3) := by decide +kernel
theorem dX8_put_128 : decode cX8_put 128 = .ok (.invokevirtual 244, 3) := by decide +kernel
theorem dX8_put_131 : decode cX8_put 131 = .ok (.iconst 0, 1) := by decide +kernel
theorem dX8_put_132 : decode cX8_put 132 = .ok (.ireturn, 1) := by decide +kernel
theorem dX8_go_0 : decode cX8_go 0 = .ok (.aload_n 0, 1) := by decide +kernel
theorem dX8_go_1 : decode cX8_go 1 = .ok (.aload_n 0, 1) := by decide +kernel
theorem dX8_go_2 : decode cX8_go 2 = .ok (.getfield 45, 3) := by decide +kernel
theorem dX8_go_5 : decode cX8_go 5 = .ok (.invokevirtual 197, 3) := by decide +kernel
theorem dX8_go_8 : decode cX8_go 8 = .ok (.istore_n 2, 1) := by decide +kernel
theorem dX8_go_9 : decode cX8_go 9 = .ok (.iload_n 2, 1) := by decide +kernel
theorem dX8_go_10 : decode cX8_go 10 = .ok (.ifCond .ne 10, 3) := by decide +kernel
theorem dX8_go_13 : decode cX8_go 13 = .ok (.aload_n 0, 1) := by decide +kernel
theorem dX8_go_14 : decode cX8_go 14 = .ok (.iconst 4, 1) := by decide +kernel
theorem dX8_go_15 : decode cX8_go 15 = .ok (.iload_n 1, 1) := by decide +kernel
theorem dX8_go_16 : decode cX8_go 16 = .ok (.invokevirtual 256, 3) := by decide +kernel
theorem dX8_go_19 : decode cX8_go 19 = .ok (.ireturn, 1) := by decide +kernel
theorem dX8_go_20 : decode cX8_go 20 = .ok (.aload_n 0, 1) := by decide +kernel
theorem dX8_go_21 : decode cX8_go 21 = .ok (.iload_n 1, 1) := by decide +kernel
theorem dX8_go_22 : decode cX8_go 22 = .ok (.iconst 1, 1) := by decide +kernel
theorem dX8_go_23 : decode cX8_go 23 = .ok (.iadd, 1) := by decide +kernel
theorem dX8_go_24 : decode cX8_go 24 = .ok (.invokevirtual 259, 3) := by decide +kernel
theorem dX8_go_27 : decode cX8_go 27 = .ok (.istore_n 3, 1) := by decide +kernel
theorem dX8_go_28 : decode cX8_go 28 = .ok (.iload_n 3, 1) := by decide +kernel
theorem dX8_go_29 : decode cX8_go 29 = .ok (.iconst (-1), 1) := by decide +kernel
theorem dX8_go_30 : decode cX8_go 30 = .ok (.if_icmp .ne 12, 3) := by decide +kernel
theorem dX8_go_33 : decode cX8_go 33 = .ok (.aload_n 0, 1) := by decide +kernel
theorem dX8_go_34 : decode cX8_go 34 = .ok (.iconst 2, 1) := by decide +kernel
theorem dX8_go_35 : decode cX8_go 35 = .ok (.iload_n 1, 1) := by decide +kernel
theorem dX8_go_36 : decode cX8_go 36 = .ok (.iconst 1, 1) := by decide +kernel
theorem dX8_go_37 : decode cX8_go 37 = .ok (.iadd, 1) := by decide +kernel
theorem dX8_go_38 : decode cX8_go 38 = .ok (.invokevirtual 256, 3) := by decide +kernel
theorem dX8_go_41 : decode cX8_go 41 = .ok (.ireturn, 1) := by decide +kernel
theorem dX8_go_42 : decode cX8_go 42 = .ok (.iconst 0, 1) := by decide +kernel
theorem dX8_go_43 : decode cX8_go 43 = .ok (.istore 4, 2) := by decide +kernel
theorem dX8_go_45 : decode cX8_go 45 = .ok (.iconst 0, 1) := by decide +kernel
theorem dX8_go_46 : decode cX8_go 46 = .ok (.istore 5, 2) := by decide +kernel
theorem dX8_go_48 : decode cX8_go 48 = .ok (.iload 5, 2) := by decide +kernel
theorem dX8_go_50 : decode cX8_go 50 = .ok (.iload_n 2, 1) := by decide +kernel
theorem dX8_go_51 : decode cX8_go 51 = .ok (.if_icmp .ge 33, 3) := by decide +kernel
theorem dX8_go_54 : decode cX8_go 54 = .ok (.iload 4, 2) := by decide +kernel
theorem dX8_go_56 : decode cX8_go 56 = .ok (.aload_n 0, 1) := by decide +kernel
theorem dX8_go_57 : decode cX8_go 57 = .ok (.getfield 45, 3) := by decide +kernel
theorem dX8_go_60 : decode cX8_go 60 = .ok (.iload 5, 2) := by decide +kernel
theorem dX8_go_62 : decode cX8_go 62 = .ok (.iaload, 1) := by decide +kernel
theorem dX8_go_63 : decode cX8_go 63 = .ok (.bipush 91, 2) := by decide +kernel
theorem dX8_go_65 : decode cX8_go 65 = .ok (.idiv, 1) := by decide +kernel
theorem dX8_go_66 : decode cX8_go 66 = .ok (.iload_n 3, 1) := by decide +kernel
theorem dX8_go_67 : decode cX8_go 67 = .ok (.if_icmp .ne 7, 3) := by decide +kernel
theorem dX8_go_70 : decode cX8_go 70 = .ok (.iconst 1, 1) := by decide +kernel
theorem dX8_go_71 : decode cX8_go 71 = .ok (.goto 4, 3) := by decide +kernel
theorem dX8_go_74 : decode cX8_go 74 = .ok (.iconst 0, 1) := by decide +kernel
theorem dX8_go_75 : decode cX8_go 75 = .ok (.ior, 1) := by decide +kernel
theorem dX8_go_76 : decode cX8_go 76 = .ok (.istore 4, 2) := by decide +kernel
theorem dX8_go_78 : decode cX8_go 78 = .ok (.iinc 5 1, 3) := by decide +kernel
theorem dX8_go_81 : decode cX8_go 81 = .ok (.goto (-33), 3) := by decide +kernel
theorem dX8_go_84 : decode cX8_go 84 = .ok (.iload 4, 2) := by decide +kernel
theorem dX8_go_86 : decode cX8_go 86 = .ok (.ifCond .ne 12, 3) := by decide +kernel
theorem dX8_go_89 : decode cX8_go 89 = .ok (.aload_n 0, 1) := by decide +kernel
theorem dX8_go_90 : decode cX8_go 90 = .ok (.iconst 4, 1) := by decide +kernel
theorem dX8_go_91 : decode cX8_go 91 = .ok (.iload_n 1, 1) := by decide +kernel
theorem dX8_go_92 : decode cX8_go 92 = .ok (.iconst 1, 1) := by decide +kernel
theorem dX8_go_93 : decode cX8_go 93 = .ok (.iadd, 1) := by decide +kernel
theorem dX8_go_94 : decode cX8_go 94 = .ok (.invokevirtual 256, 3) := by decide +kernel
theorem dX8_go_97 : decode cX8_go 97 = .ok (.ireturn, 1) := by decide +kernel
theorem dX8_go_98 : decode cX8_go 98 = .ok (.aload_n 0, 1) := by decide +kernel
theorem dX8_go_99 : decode cX8_go 99 = .ok (.iload_n 1, 1) := by decide +kernel
theorem dX8_go_100 : decode cX8_go 100 = .ok (.iconst 2, 1) := by decide +kernel
theorem dX8_go_101 : decode cX8_go 101 = .ok (.iadd, 1) := by decide +kernel
theorem dX8_go_102 : decode cX8_go 102 = .ok (.invokevirtual 259, 3) := by decide +kernel
theorem dX8_go_105 : decode cX8_go 105 = .ok (.istore 5, 2) := by decide +kernel
theorem dX8_go_107 : decode cX8_go 107 = .ok (.iload 5, 2) := by decide +kernel
theorem dX8_go_109 : decode cX8_go 109 = .ok (.iconst (-1), 1) := by decide +kernel
theorem dX8_go_110 : decode cX8_go 110 = .ok (.if_icmp .ne 12, 3) := by decide +kernel
theorem dX8_go_113 : decode cX8_go 113 = .ok (.aload_n 0, 1) := by decide +kernel
theorem dX8_go_114 : decode cX8_go 114 = .ok (.iconst 2, 1) := by decide +kernel
theorem dX8_go_115 : decode cX8_go 115 = .ok (.iload_n 1, 1) := by decide +kernel
theorem dX8_go_116 : decode cX8_go 116 = .ok (.iconst 2, 1) := by decide +kernel
theorem dX8_go_117 : decode cX8_go 117 = .ok (.iadd, 1) := by decide +kernel
theorem dX8_go_118 : decode cX8_go 118 = .ok (.invokevirtual 256, 3) := by decide +kernel
theorem dX8_go_121 : decode cX8_go 121 = .ok (.ireturn, 1) := by decide +kernel
theorem dX8_go_122 : decode cX8_go 122 = .ok (.iconst 0, 1) := by decide +kernel
theorem dX8_go_123 : decode cX8_go 123 = .ok (.istore 6, 2) := by decide +kernel
theorem dX8_go_125 : decode cX8_go 125 = .ok (.iconst 0, 1) := by decide +kernel
theorem dX8_go_126 : decode cX8_go 126 = .ok (.istore 7, 2) := by decide +kernel
theorem dX8_go_128 : decode cX8_go 128 = .ok (.iload 7, 2) := by decide +kernel
theorem dX8_go_130 : decode cX8_go 130 = .ok (.iload_n 2, 1) := by decide +kernel
theorem dX8_go_131 : decode cX8_go 131 = .ok (.if_icmp .ge 36, 3) := by decide +kernel
theorem dX8_go_134 : decode cX8_go 134 = .ok (.iload 6, 2) := by decide +kernel
theorem dX8_go_136 : decode cX8_go 136 = .ok (.aload_n 0, 1) := by decide +kernel
theorem dX8_go_137 : decode cX8_go 137 = .ok (.getfield 45, 3) := by decide +kernel
theorem dX8_go_140 : decode cX8_go 140 = .ok (.iload 7, 2) := by decide +kernel
theorem dX8_go_142 : decode cX8_go 142 = .ok (.iaload, 1) := by decide +kernel
theorem dX8_go_143 : decode cX8_go 143 = .ok (.bipush 91, 2) := by decide +kernel
theorem dX8_go_145 : decode cX8_go 145 = .ok (.iload_n 3, 1) := by decide +kernel
theorem dX8_go_146 : decode cX8_go 146 = .ok (.imul, 1) := by decide +kernel
theorem dX8_go_147 : decode cX8_go 147 = .ok (.iload 5, 2) := by decide +kernel
theorem dX8_go_149 : decode cX8_go 149 = .ok (.iadd, 1) := by decide +kernel
theorem dX8_go_150 : decode cX8_go 150 = .ok (.if_icmp .ne 7, 3) := by decide +kernel
theorem dX8_go_153 : decode cX8_go 153 = .ok (.iconst 1, 1) := by decide +kernel
theorem dX8_go_154 : decode cX8_go 154 = .ok (.goto 4, 3) := by decide +kernel
theorem dX8_go_157 : decode cX8_go 157 = .ok (.iconst 0, 1) := by decide +kernel
theorem dX8_go_158 : decode cX8_go 158 = .ok (.ior, 1) := by decide +kernel
theorem dX8_go_159 : decode cX8_go 159 = .ok (.istore 6, 2) := by decide +kernel
theorem dX8_go_161 : decode cX8_go 161 = .ok (.iinc 7 1, 3) := by decide +kernel
theorem dX8_go_164 : decode cX8_go 164 = .ok (.goto (-36), 3) := by decide +kernel
theorem dX8_go_167 : decode cX8_go 167 = .ok (.iload 6, 2) := by decide +kernel
theorem dX8_go_169 : decode cX8_go 169 = .ok (.ifCond .ne 12, 3) := by decide +kernel
theorem dX8_go_172 : decode cX8_go 172 = .ok (.aload_n 0, 1) := by decide +kernel
theorem dX8_go_173 : decode cX8_go 173 = .ok (.iconst 4, 1) := by decide +kernel
theorem dX8_go_174 : decode cX8_go 174 = .ok (.iload_n 1, 1) := by decide +kernel
theorem dX8_go_175 : decode cX8_go 175 = .ok (.iconst 2, 1) := by decide +kernel
theorem dX8_go_176 : decode cX8_go 176 = .ok (.iadd, 1) := by decide +kernel
theorem dX8_go_177 : decode cX8_go 177 = .ok (.invokevirtual 256, 3) := by decide +kernel
theorem dX8_go_180 : decode cX8_go 180 = .ok (.ireturn, 1) := by decide +kernel
theorem dX8_go_181 : decode cX8_go 181 = .ok (.iconst 2, 1) := by decide +kernel
theorem dX8_go_182 : decode cX8_go 182 = .ok (.istore 7, 2) := by decide +kernel
theorem dX8_go_184 : decode cX8_go 184 = .ok (.aload_n 0, 1) := by decide +kernel
theorem dX8_go_185 : decode cX8_go 185 = .ok (.getfield 57, 3) := by decide +kernel
theorem dX8_go_188 : decode cX8_go 188 = .ok (.iload_n 1, 1) := by decide +kernel
theorem dX8_go_189 : decode cX8_go 189 = .ok (.iconst 3, 1) := by decide +kernel
theorem dX8_go_190 : decode cX8_go 190 = .ok (.iadd, 1) := by decide +kernel
theorem dX8_go_191 : decode cX8_go 191 = .ok (.iaload, 1) := by decide +kernel
theorem dX8_go_192 : decode cX8_go 192 = .ok (.iconst 4, 1) := by decide +kernel
theorem dX8_go_193 : decode cX8_go 193 = .ok (.if_icmp .ne 50, 3) := by decide +kernel
theorem dX8_go_196 : decode cX8_go 196 = .ok (.aload_n 0, 1) := by decide +kernel
theorem dX8_go_197 : decode cX8_go 197 = .ok (.getfield 57, 3) := by decide +kernel
theorem dX8_go_200 : decode cX8_go 200 = .ok (.iload_n 1, 1) := by decide +kernel
theorem dX8_go_201 : decode cX8_go 201 = .ok (.iconst 4, 1) := by decide +kernel
theorem dX8_go_202 : decode cX8_go 202 = .ok (.iadd, 1) := by decide +kernel
theorem dX8_go_203 : decode cX8_go 203 = .ok (.iaload, 1) := by decide +kernel
theorem dX8_go_204 : decode cX8_go 204 = .ok (.bipush 7, 2) := by decide +kernel
theorem dX8_go_206 : decode cX8_go 206 = .ok (.isub, 1) := by decide +kernel
theorem dX8_go_207 : decode cX8_go 207 = .ok (.iconst 1, 1) := by decide +kernel
theorem dX8_go_208 : decode cX8_go 208 = .ok (.iadd, 1) := by decide +kernel
theorem dX8_go_209 : decode cX8_go 209 = .ok (.istore 7, 2) := by decide +kernel
theorem dX8_go_211 : decode cX8_go 211 = .ok (.iload 7, 2) := by decide +kernel
theorem dX8_go_213 : decode cX8_go 213 = .ok (.iconst 1, 1) := by decide +kernel
theorem dX8_go_214 : decode cX8_go 214 = .ok (.if_icmp .eq 20, 3) := by decide +kernel
theorem dX8_go_217 : decode cX8_go 217 = .ok (.iload 7, 2) := by decide +kernel
theorem dX8_go_219 : decode cX8_go 219 = .ok (.bipush 6, 2) := by decide +kernel
theorem dX8_go_221 : decode cX8_go 221 = .ok (.if_icmp .eq 13, 3) := by decide +kernel
theorem dX8_go_224 : decode cX8_go 224 = .ok (.aload_n 0, 1) := by decide +kernel
theorem dX8_go_225 : decode cX8_go 225 = .ok (.iload_n 3, 1) := by decide +kernel
theorem dX8_go_226 : decode cX8_go 226 = .ok (.iload 5, 2) := by decide +kernel
theorem dX8_go_228 : decode cX8_go 228 = .ok (.invokevirtual 168, 3) := by decide +kernel
theorem dX8_go_231 : decode cX8_go 231 = .ok (.ifCond .ne 12, 3) := by decide +kernel
theorem dX8_go_234 : decode cX8_go 234 = .ok (.aload_n 0, 1) := by decide +kernel
theorem dX8_go_235 : decode cX8_go 235 = .ok (.iconst 5, 1) := by decide +kernel
theorem dX8_go_236 : decode cX8_go 236 = .ok (.iload_n 1, 1) := by decide +kernel
theorem dX8_go_237 : decode cX8_go 237 = .ok (.iconst 4, 1) := by decide +kernel
theorem dX8_go_238 : decode cX8_go 238 = .ok (.iadd, 1) := by decide +kernel
theorem dX8_go_239 : decode cX8_go 239 = .ok (.invokevirtual 256, 3) := by decide +kernel
theorem dX8_go_242 : decode cX8_go 242 = .ok (.ireturn, 1) := by decide +kernel
theorem dX8_go_243 : decode cX8_go 243 = .ok (.aload_n 0, 1) := by decide +kernel
theorem dX8_go_244 : decode cX8_go 244 = .ok (.iload_n 3, 1) := by decide +kernel
theorem dX8_go_245 : decode cX8_go 245 = .ok (.iload 5, 2) := by decide +kernel
theorem dX8_go_247 : decode cX8_go 247 = .ok (.iload 7, 2) := by decide +kernel
theorem dX8_go_249 : decode cX8_go 249 = .ok (.invokevirtual 175, 3) := by decide +kernel
theorem dX8_go_252 : decode cX8_go 252 = .ok (.pop, 1) := by decide +kernel
theorem dX8_go_253 : decode cX8_go 253 = .ok (.iconst 0, 1) := by decide +kernel
theorem dX8_go_254 : decode cX8_go 254 = .ok (.ireturn, 1) := by decide +kernel
theorem dX8_carryOut_0 : decode cX8_carryOut 0 = .ok (.aload_n 0, 1) := by decide +kernel
theorem dX8_carryOut_1 : decode cX8_carryOut 1 = .ok (.getfield 57, 3) := by decide +kernel
theorem dX8_carryOut_4 : decode cX8_carryOut 4 = .ok (.iload_n 1, 1) := by decide +kernel
theorem dX8_carryOut_5 : decode cX8_carryOut 5 = .ok (.iaload, 1) := by decide +kernel
theorem dX8_carryOut_6 : decode cX8_carryOut 6 = .ok (.tableswitch 54 0 2 #[26, 32, 38], 26) := by decide +kernel
theorem dX8_carryOut_32 : decode cX8_carryOut 32 = .ok (.aload_n 0, 1) := by decide +kernel
theorem dX8_carryOut_33 : decode cX8_carryOut 33 = .ok (.invokevirtual 262, 3) := by decide +kernel
theorem dX8_carryOut_36 : decode cX8_carryOut 36 = .ok (.iconst 0, 1) := by decide +kernel
theorem dX8_carryOut_37 : decode cX8_carryOut 37 = .ok (.ireturn, 1) := by decide +kernel
theorem dX8_carryOut_38 : decode cX8_carryOut 38 = .ok (.aload_n 0, 1) := by decide +kernel
theorem dX8_carryOut_39 : decode cX8_carryOut 39 = .ok (.iload_n 1, 1) := by decide +kernel
theorem dX8_carryOut_40 : decode cX8_carryOut 40 = .ok (.invokevirtual 265, 3) := by decide +kernel
theorem dX8_carryOut_43 : decode cX8_carryOut 43 = .ok (.ireturn, 1) := by decide +kernel
theorem dX8_carryOut_44 : decode cX8_carryOut 44 = .ok (.aload_n 0, 1) := by decide +kernel
theorem dX8_carryOut_45 : decode cX8_carryOut 45 = .ok (.aload_n 0, 1) := by decide +kernel
theorem dX8_carryOut_46 : decode cX8_carryOut 46 = .ok (.getfield 57, 3) := by decide +kernel
theorem dX8_carryOut_49 : decode cX8_carryOut 49 = .ok (.iload_n 1, 1) := by decide +kernel
theorem dX8_carryOut_50 : decode cX8_carryOut 50 = .ok (.iconst 1, 1) := by decide +kernel
theorem dX8_carryOut_51 : decode cX8_carryOut 51 = .ok (.iadd, 1) := by decide +kernel
theorem dX8_carryOut_52 : decode cX8_carryOut 52 = .ok (.iaload, 1) := by decide +kernel
theorem dX8_carryOut_53 : decode cX8_carryOut 53 = .ok (.iconst 5, 1) := by decide +kernel
theorem dX8_carryOut_54 : decode cX8_carryOut 54 = .ok (.isub, 1) := by decide +kernel
theorem dX8_carryOut_55 : decode cX8_carryOut 55 = .ok (.invokevirtual 244, 3) := by decide +kernel
theorem dX8_carryOut_58 : decode cX8_carryOut 58 = .ok (.iconst 0, 1) := by decide +kernel
theorem dX8_carryOut_59 : decode cX8_carryOut 59 = .ok (.ireturn, 1) := by decide +kernel
theorem dX8_carryOut_60 : decode cX8_carryOut 60 = .ok (.aload_n 0, 1) := by decide +kernel
theorem dX8_carryOut_61 : decode cX8_carryOut 61 = .ok (.iload_n 1, 1) := by decide +kernel
theorem dX8_carryOut_62 : decode cX8_carryOut 62 = .ok (.invokevirtual 268, 3) := by decide +kernel
theorem dX8_carryOut_65 : decode cX8_carryOut 65 = .ok (.ireturn, 1) := by decide +kernel
theorem dX8_read_0 : decode cX8_read 0 = .ok (.aload_n 0, 1) := by decide +kernel
theorem dX8_read_1 : decode cX8_read 1 = .ok (.invokevirtual 271, 3) := by decide +kernel
theorem dX8_read_4 : decode cX8_read 4 = .ok (.aload_n 0, 1) := by decide +kernel
theorem dX8_read_5 : decode cX8_read 5 = .ok (.invokevirtual 274, 3) := by decide +kernel
theorem dX8_read_8 : decode cX8_read 8 = .ok (.ifCond .ne 13, 3) := by decide +kernel
theorem dX8_read_11 : decode cX8_read 11 = .ok (.aload_n 0, 1) := by decide +kernel
theorem dX8_read_12 : decode cX8_read 12 = .ok (.iconst 1, 1) := by decide +kernel
theorem dX8_read_13 : decode cX8_read 13 = .ok (.aload_n 0, 1) := by decide +kernel
theorem dX8_read_14 : decode cX8_read 14 = .ok (.getfield 232, 3) := by decide +kernel
theorem dX8_read_17 : decode cX8_read 17 = .ok (.invokevirtual 256, 3) := by decide +kernel
theorem dX8_read_20 : decode cX8_read 20 = .ok (.ireturn, 1) := by decide +kernel
theorem dX8_read_21 : decode cX8_read 21 = .ok (.aload_n 0, 1) := by decide +kernel
theorem dX8_read_22 : decode cX8_read 22 = .ok (.getfield 232, 3) := by decide +kernel
theorem dX8_read_25 : decode cX8_read 25 = .ok (.istore_n 1, 1) := by decide +kernel
theorem dX8_read_26 : decode cX8_read 26 = .ok (.iconst 0, 1) := by decide +kernel
theorem dX8_read_27 : decode cX8_read 27 = .ok (.istore_n 2, 1) := by decide +kernel
theorem dX8_read_28 : decode cX8_read 28 = .ok (.iconst 0, 1) := by decide +kernel
theorem dX8_read_29 : decode cX8_read 29 = .ok (.istore_n 3, 1) := by decide +kernel
theorem dX8_read_30 : decode cX8_read 30 = .ok (.iload_n 3, 1) := by decide +kernel
theorem dX8_read_31 : decode cX8_read 31 = .ok (.iload_n 1, 1) := by decide +kernel
theorem dX8_read_32 : decode cX8_read 32 = .ok (.if_icmp .ge 42, 3) := by decide +kernel
theorem dX8_read_35 : decode cX8_read 35 = .ok (.aload_n 0, 1) := by decide +kernel
theorem dX8_read_36 : decode cX8_read 36 = .ok (.getfield 57, 3) := by decide +kernel
theorem dX8_read_39 : decode cX8_read 39 = .ok (.iload_n 3, 1) := by decide +kernel
theorem dX8_read_40 : decode cX8_read 40 = .ok (.iaload, 1) := by decide +kernel
theorem dX8_read_41 : decode cX8_read 41 = .ok (.bipush 21, 2) := by decide +kernel
theorem dX8_read_43 : decode cX8_read 43 = .ok (.if_icmp .eq 6, 3) := by decide +kernel
theorem dX8_read_46 : decode cX8_read 46 = .ok (.goto 22, 3) := by decide +kernel
theorem dX8_read_49 : decode cX8_read 49 = .ok (.aload_n 0, 1) := by decide +kernel
theorem dX8_read_50 : decode cX8_read 50 = .ok (.iload_n 2, 1) := by decide +kernel
theorem dX8_read_51 : decode cX8_read 51 = .ok (.invokevirtual 277, 3) := by decide +kernel
theorem dX8_read_54 : decode cX8_read 54 = .ok (.istore 4, 2) := by decide +kernel
theorem dX8_read_56 : decode cX8_read 56 = .ok (.iload 4, 2) := by decide +kernel
theorem dX8_read_58 : decode cX8_read 58 = .ok (.ifCond .le 6, 3) := by decide +kernel
theorem dX8_read_61 : decode cX8_read 61 = .ok (.iload 4, 2) := by decide +kernel
theorem dX8_read_63 : decode cX8_read 63 = .ok (.ireturn, 1) := by decide +kernel
theorem dX8_read_64 : decode cX8_read 64 = .ok (.iload_n 3, 1) := by decide +kernel
theorem dX8_read_65 : decode cX8_read 65 = .ok (.iconst 1, 1) := by decide +kernel
theorem dX8_read_66 : decode cX8_read 66 = .ok (.iadd, 1) := by decide +kernel
theorem dX8_read_67 : decode cX8_read 67 = .ok (.istore_n 2, 1) := by decide +kernel
theorem dX8_read_68 : decode cX8_read 68 = .ok (.iinc 3 1, 3) := by decide +kernel
theorem dX8_read_71 : decode cX8_read 71 = .ok (.goto (-41), 3) := by decide +kernel
theorem dX8_read_74 : decode cX8_read 74 = .ok (.iconst 0, 1) := by decide +kernel
theorem dX8_read_75 : decode cX8_read 75 = .ok (.ireturn, 1) := by decide +kernel
theorem dX8_feed_0 : decode cX8_feed 0 = .ok (.aload_n 0, 1) := by decide +kernel
theorem dX8_feed_1 : decode cX8_feed 1 = .ok (.iconst 0, 1) := by decide +kernel
theorem dX8_feed_2 : decode cX8_feed 2 = .ok (.putfield 91, 3) := by decide +kernel
theorem dX8_feed_5 : decode cX8_feed 5 = .ok (.aload_n 0, 1) := by decide +kernel
theorem dX8_feed_6 : decode cX8_feed 6 = .ok (.getfield 200, 3) := by decide +kernel
theorem dX8_feed_9 : decode cX8_feed 9 = .ok (.sipush 1980, 3) := by decide +kernel
theorem dX8_feed_12 : decode cX8_feed 12 = .ok (.if_icmp .le 9, 3) := by decide +kernel
theorem dX8_feed_15 : decode cX8_feed 15 = .ok (.aload_n 0, 1) := by decide +kernel
theorem dX8_feed_16 : decode cX8_feed 16 = .ok (.iconst 1, 1) := by decide +kernel
theorem dX8_feed_17 : decode cX8_feed 17 = .ok (.invokevirtual 280, 3) := by decide +kernel
theorem dX8_feed_20 : decode cX8_feed 20 = .ok (.ireturn, 1) := by decide +kernel
theorem dX8_feed_21 : decode cX8_feed 21 = .ok (.iconst 5, 1) := by decide +kernel
theorem dX8_feed_22 : decode cX8_feed 22 = .ok (.newarray .int, 2) := by decide +kernel
theorem dX8_feed_24 : decode cX8_feed 24 = .ok (.dup, 1) := by decide +kernel
theorem dX8_feed_25 : decode cX8_feed 25 = .ok (.iconst 0, 1) := by decide +kernel
theorem dX8_feed_26 : decode cX8_feed 26 = .ok (.iload_n 1, 1) := by decide +kernel
theorem dX8_feed_27 : decode cX8_feed 27 = .ok (.iastore, 1) := by decide +kernel
theorem dX8_feed_28 : decode cX8_feed 28 = .ok (.dup, 1) := by decide +kernel
theorem dX8_feed_29 : decode cX8_feed 29 = .ok (.iconst 1, 1) := by decide +kernel
theorem dX8_feed_30 : decode cX8_feed 30 = .ok (.iload_n 2, 1) := by decide +kernel
theorem dX8_feed_31 : decode cX8_feed 31 = .ok (.iastore, 1) := by decide +kernel
theorem dX8_feed_32 : decode cX8_feed 32 = .ok (.dup, 1) := by decide +kernel
theorem dX8_feed_33 : decode cX8_feed 33 = .ok (.iconst 2, 1) := by decide +kernel
theorem dX8_feed_34 : decode cX8_feed 34 = .ok (.iload_n 3, 1) := by decide +kernel
theorem dX8_feed_35 : decode cX8_feed 35 = .ok (.iastore, 1) := by decide +kernel
theorem dX8_feed_36 : decode cX8_feed 36 = .ok (.dup, 1) := by decide +kernel
theorem dX8_feed_37 : decode cX8_feed 37 = .ok (.iconst 3, 1) := by decide +kernel
theorem dX8_feed_38 : decode cX8_feed 38 = .ok (.iload 4, 2) := by decide +kernel
theorem dX8_feed_40 : decode cX8_feed 40 = .ok (.iastore, 1) := by decide +kernel
theorem dX8_feed_41 : decode cX8_feed 41 = .ok (.dup, 1) := by decide +kernel
theorem dX8_feed_42 : decode cX8_feed 42 = .ok (.iconst 4, 1) := by decide +kernel
theorem dX8_feed_43 : decode cX8_feed 43 = .ok (.iload 5, 2) := by decide +kernel
theorem dX8_feed_45 : decode cX8_feed 45 = .ok (.iastore, 1) := by decide +kernel
theorem dX8_feed_46 : decode cX8_feed 46 = .ok (.astore 6, 2) := by decide +kernel
theorem dX8_feed_48 : decode cX8_feed 48 = .ok (.iconst 0, 1) := by decide +kernel
theorem dX8_feed_49 : decode cX8_feed 49 = .ok (.istore 7, 2) := by decide +kernel
theorem dX8_feed_51 : decode cX8_feed 51 = .ok (.iload 7, 2) := by decide +kernel
theorem dX8_feed_53 : decode cX8_feed 53 = .ok (.bipush 20, 2) := by decide +kernel
theorem dX8_feed_55 : decode cX8_feed 55 = .ok (.if_icmp .ge 43, 3) := by decide +kernel
theorem dX8_feed_58 : decode cX8_feed 58 = .ok (.aload_n 0, 1) := by decide +kernel
theorem dX8_feed_59 : decode cX8_feed 59 = .ok (.getfield 9, 3) := by decide +kernel
theorem dX8_feed_62 : decode cX8_feed 62 = .ok (.aload_n 0, 1) := by decide +kernel
theorem dX8_feed_63 : decode cX8_feed 63 = .ok (.getfield 200, 3) := by decide +kernel
theorem dX8_feed_66 : decode cX8_feed 66 = .ok (.iload 7, 2) := by decide +kernel
theorem dX8_feed_68 : decode cX8_feed 68 = .ok (.iadd, 1) := by decide +kernel
theorem dX8_feed_69 : decode cX8_feed 69 = .ok (.aload 6, 2) := by decide +kernel
theorem dX8_feed_71 : decode cX8_feed 71 = .ok (.iload 7, 2) := by decide +kernel
theorem dX8_feed_73 : decode cX8_feed 73 = .ok (.iconst 4, 1) := by decide +kernel
theorem dX8_feed_74 : decode cX8_feed 74 = .ok (.idiv, 1) := by decide +kernel
theorem dX8_feed_75 : decode cX8_feed 75 = .ok (.iaload, 1) := by decide +kernel
theorem dX8_feed_76 : decode cX8_feed 76 = .ok (.bipush 24, 2) := by decide +kernel
theorem dX8_feed_78 : decode cX8_feed 78 = .ok (.bipush 8, 2) := by decide +kernel
theorem dX8_feed_80 : decode cX8_feed 80 = .ok (.iload 7, 2) := by decide +kernel
theorem dX8_feed_82 : decode cX8_feed 82 = .ok (.iconst 4, 1) := by decide +kernel
theorem dX8_feed_83 : decode cX8_feed 83 = .ok (.irem, 1) := by decide +kernel
theorem dX8_feed_84 : decode cX8_feed 84 = .ok (.imul, 1) := by decide +kernel
theorem dX8_feed_85 : decode cX8_feed 85 = .ok (.isub, 1) := by decide +kernel
theorem dX8_feed_86 : decode cX8_feed 86 = .ok (.iushr, 1) := by decide +kernel
theorem dX8_feed_87 : decode cX8_feed 87 = .ok (.sipush 255, 3) := by decide +kernel
theorem dX8_feed_90 : decode cX8_feed 90 = .ok (.iand, 1) := by decide +kernel
theorem dX8_feed_91 : decode cX8_feed 91 = .ok (.iastore, 1) := by decide +kernel
theorem dX8_feed_92 : decode cX8_feed 92 = .ok (.iinc 7 1, 3) := by decide +kernel
theorem dX8_feed_95 : decode cX8_feed 95 = .ok (.goto (-44), 3) := by decide +kernel
theorem dX8_feed_98 : decode cX8_feed 98 = .ok (.aload_n 0, 1) := by decide +kernel
theorem dX8_feed_99 : decode cX8_feed 99 = .ok (.dup, 1) := by decide +kernel
theorem dX8_feed_100 : decode cX8_feed 100 = .ok (.getfield 200, 3) := by decide +kernel
theorem dX8_feed_103 : decode cX8_feed 103 = .ok (.bipush 20, 2) := by decide +kernel
theorem dX8_feed_105 : decode cX8_feed 105 = .ok (.iadd, 1) := by decide +kernel
theorem dX8_feed_106 : decode cX8_feed 106 = .ok (.putfield 200, 3) := by decide +kernel
theorem dX8_feed_109 : decode cX8_feed 109 = .ok (.aload_n 0, 1) := by decide +kernel
theorem dX8_feed_110 : decode cX8_feed 110 = .ok (.getfield 200, 3) := by decide +kernel
theorem dX8_feed_113 : decode cX8_feed 113 = .ok (.ireturn, 1) := by decide +kernel
theorem dX8_trim_0 : decode cX8_trim 0 = .ok (.aload_n 0, 1) := by decide +kernel
theorem dX8_trim_1 : decode cX8_trim 1 = .ok (.iconst 0, 1) := by decide +kernel
theorem dX8_trim_2 : decode cX8_trim 2 = .ok (.putfield 91, 3) := by decide +kernel
theorem dX8_trim_5 : decode cX8_trim 5 = .ok (.iload_n 1, 1) := by decide +kernel
theorem dX8_trim_6 : decode cX8_trim 6 = .ok (.iconst 0, 1) := by decide +kernel
theorem dX8_trim_7 : decode cX8_trim 7 = .ok (.aload_n 0, 1) := by decide +kernel
theorem dX8_trim_8 : decode cX8_trim 8 = .ok (.getfield 200, 3) := by decide +kernel
theorem dX8_trim_11 : decode cX8_trim 11 = .ok (.invokestatic 94, 3) := by decide +kernel
theorem dX8_trim_14 : decode cX8_trim 14 = .ok (.ifCond .ne 9, 3) := by decide +kernel
theorem dX8_trim_17 : decode cX8_trim 17 = .ok (.aload_n 0, 1) := by decide +kernel
theorem dX8_trim_18 : decode cX8_trim 18 = .ok (.iconst 1, 1) := by decide +kernel
theorem dX8_trim_19 : decode cX8_trim 19 = .ok (.invokevirtual 280, 3) := by decide +kernel
theorem dX8_trim_22 : decode cX8_trim 22 = .ok (.ireturn, 1) := by decide +kernel
theorem dX8_trim_23 : decode cX8_trim 23 = .ok (.aload_n 0, 1) := by decide +kernel
theorem dX8_trim_24 : decode cX8_trim 24 = .ok (.iload_n 1, 1) := by decide +kernel
theorem dX8_trim_25 : decode cX8_trim 25 = .ok (.putfield 200, 3) := by decide +kernel
theorem dX8_trim_28 : decode cX8_trim 28 = .ok (.iload_n 1, 1) := by decide +kernel
theorem dX8_trim_29 : decode cX8_trim 29 = .ok (.ireturn, 1) := by decide +kernel
theorem dX8_teach_0 : decode cX8_teach 0 = .ok (.aload_n 0, 1) := by decide +kernel
theorem dX8_teach_1 : decode cX8_teach 1 = .ok (.iconst 0, 1) := by decide +kernel
theorem dX8_teach_2 : decode cX8_teach 2 = .ok (.putfield 91, 3) := by decide +kernel
theorem dX8_teach_5 : decode cX8_teach 5 = .ok (.aload_n 0, 1) := by decide +kernel
theorem dX8_teach_6 : decode cX8_teach 6 = .ok (.iconst (-1), 1) := by decide +kernel
theorem dX8_teach_7 : decode cX8_teach 7 = .ok (.putfield 13, 3) := by decide +kernel
theorem dX8_teach_10 : decode cX8_teach 10 = .ok (.aload_n 0, 1) := by decide +kernel
theorem dX8_teach_11 : decode cX8_teach 11 = .ok (.getfield 32, 3) := by decide +kernel
theorem dX8_teach_14 : decode cX8_teach 14 = .ok (.astore_n 1, 1) := by decide +kernel
theorem dX8_teach_15 : decode cX8_teach 15 = .ok (.aload_n 0, 1) := by decide +kernel
theorem dX8_teach_16 : decode cX8_teach 16 = .ok (.getfield 38, 3) := by decide +kernel
theorem dX8_teach_19 : decode cX8_teach 19 = .ok (.astore_n 2, 1) := by decide +kernel
theorem dX8_teach_20 : decode cX8_teach 20 = .ok (.iconst 4, 1) := by decide +kernel
theorem dX8_teach_21 : decode cX8_teach 21 = .ok (.newarray .int, 2) := by decide +kernel
theorem dX8_teach_23 : decode cX8_teach 23 = .ok (.dup, 1) := by decide +kernel
theorem dX8_teach_24 : decode cX8_teach 24 = .ok (.iconst 0, 1) := by decide +kernel
theorem dX8_teach_25 : decode cX8_teach 25 = .ok (.aload_n 0, 1) := by decide +kernel
theorem dX8_teach_26 : decode cX8_teach 26 = .ok (.getfield 125, 3) := by decide +kernel
theorem dX8_teach_29 : decode cX8_teach 29 = .ok (.iastore, 1) := by decide +kernel
theorem dX8_teach_30 : decode cX8_teach 30 = .ok (.dup, 1) := by decide +kernel
theorem dX8_teach_31 : decode cX8_teach 31 = .ok (.iconst 1, 1) := by decide +kernel
theorem dX8_teach_32 : decode cX8_teach 32 = .ok (.aload_n 0, 1) := by decide +kernel
theorem dX8_teach_33 : decode cX8_teach 33 = .ok (.getfield 35, 3) := by decide +kernel
theorem dX8_teach_36 : decode cX8_teach 36 = .ok (.iastore, 1) := by decide +kernel
theorem dX8_teach_37 : decode cX8_teach 37 = .ok (.dup, 1) := by decide +kernel
theorem dX8_teach_38 : decode cX8_teach 38 = .ok (.iconst 2, 1) := by decide +kernel
theorem dX8_teach_39 : decode cX8_teach 39 = .ok (.aload_n 0, 1) := by decide +kernel
theorem dX8_teach_40 : decode cX8_teach 40 = .ok (.getfield 162, 3) := by decide +kernel
theorem dX8_teach_43 : decode cX8_teach 43 = .ok (.iastore, 1) := by decide +kernel
theorem dX8_teach_44 : decode cX8_teach 44 = .ok (.dup, 1) := by decide +kernel
theorem dX8_teach_45 : decode cX8_teach 45 = .ok (.iconst 3, 1) := by decide +kernel
theorem dX8_teach_46 : decode cX8_teach 46 = .ok (.aload_n 0, 1) := by decide +kernel
theorem dX8_teach_47 : decode cX8_teach 47 = .ok (.getfield 153, 3) := by decide +kernel
theorem dX8_teach_50 : decode cX8_teach 50 = .ok (.iastore, 1) := by decide +kernel
theorem dX8_teach_51 : decode cX8_teach 51 = .ok (.astore_n 3, 1) := by decide +kernel
theorem dX8_teach_52 : decode cX8_teach 52 = .ok (.aload_n 0, 1) := by decide +kernel
theorem dX8_teach_53 : decode cX8_teach 53 = .ok (.bipush 91, 2) := by decide +kernel
theorem dX8_teach_55 : decode cX8_teach 55 = .ok (.newarray .int, 2) := by decide +kernel
theorem dX8_teach_57 : decode cX8_teach 57 = .ok (.putfield 32, 3) := by decide +kernel
theorem dX8_teach_60 : decode cX8_teach 60 = .ok (.aload_n 0, 1) := by decide +kernel
theorem dX8_teach_61 : decode cX8_teach 61 = .ok (.sipush 448, 3) := by decide +kernel
theorem dX8_teach_64 : decode cX8_teach 64 = .ok (.newarray .int, 2) := by decide +kernel
theorem dX8_teach_66 : decode cX8_teach 66 = .ok (.putfield 38, 3) := by decide +kernel
theorem dX8_teach_69 : decode cX8_teach 69 = .ok (.aload_n 0, 1) := by decide +kernel
theorem dX8_teach_70 : decode cX8_teach 70 = .ok (.invokevirtual 247, 3) := by decide +kernel
theorem dX8_teach_73 : decode cX8_teach 73 = .ok (.aload_n 0, 1) := by decide +kernel
theorem dX8_teach_74 : decode cX8_teach 74 = .ok (.invokevirtual 283, 3) := by decide +kernel
theorem dX8_teach_77 : decode cX8_teach 77 = .ok (.istore 4, 2) := by decide +kernel
theorem dX8_teach_79 : decode cX8_teach 79 = .ok (.aload_n 0, 1) := by decide +kernel
theorem dX8_teach_80 : decode cX8_teach 80 = .ok (.iconst 0, 1) := by decide +kernel
theorem dX8_teach_81 : decode cX8_teach 81 = .ok (.putfield 200, 3) := by decide +kernel
theorem dX8_teach_84 : decode cX8_teach 84 = .ok (.iload 4, 2) := by decide +kernel
theorem dX8_teach_86 : decode cX8_teach 86 = .ok (.ifCond .ne 5, 3) := by decide +kernel
theorem dX8_teach_89 : decode cX8_teach 89 = .ok (.iconst 0, 1) := by decide +kernel
theorem dX8_teach_90 : decode cX8_teach 90 = .ok (.ireturn, 1) := by decide +kernel
theorem dX8_teach_91 : decode cX8_teach 91 = .ok (.aload_n 0, 1) := by decide +kernel
theorem dX8_teach_92 : decode cX8_teach 92 = .ok (.aload_n 1, 1) := by decide +kernel
theorem dX8_teach_93 : decode cX8_teach 93 = .ok (.putfield 32, 3) := by decide +kernel
theorem dX8_teach_96 : decode cX8_teach 96 = .ok (.aload_n 0, 1) := by decide +kernel
theorem dX8_teach_97 : decode cX8_teach 97 = .ok (.aload_n 2, 1) := by decide +kernel
theorem dX8_teach_98 : decode cX8_teach 98 = .ok (.putfield 38, 3) := by decide +kernel
theorem dX8_teach_101 : decode cX8_teach 101 = .ok (.aload_n 0, 1) := by decide +kernel
theorem dX8_teach_102 : decode cX8_teach 102 = .ok (.aload_n 3, 1) := by decide +kernel
theorem dX8_teach_103 : decode cX8_teach 103 = .ok (.iconst 0, 1) := by decide +kernel
theorem dX8_teach_104 : decode cX8_teach 104 = .ok (.iaload, 1) := by decide +kernel
theorem dX8_teach_105 : decode cX8_teach 105 = .ok (.putfield 125, 3) := by decide +kernel
theorem dX8_teach_108 : decode cX8_teach 108 = .ok (.aload_n 0, 1) := by decide +kernel
theorem dX8_teach_109 : decode cX8_teach 109 = .ok (.aload_n 3, 1) := by decide +kernel
theorem dX8_teach_110 : decode cX8_teach 110 = .ok (.iconst 1, 1) := by decide +kernel
theorem dX8_teach_111 : decode cX8_teach 111 = .ok (.iaload, 1) := by decide +kernel
theorem dX8_teach_112 : decode cX8_teach 112 = .ok (.putfield 35, 3) := by decide +kernel
theorem dX8_teach_115 : decode cX8_teach 115 = .ok (.aload_n 0, 1) := by decide +kernel
theorem dX8_teach_116 : decode cX8_teach 116 = .ok (.aload_n 3, 1) := by decide +kernel
theorem dX8_teach_117 : decode cX8_teach 117 = .ok (.iconst 2, 1) := by decide +kernel
theorem dX8_teach_118 : decode cX8_teach 118 = .ok (.iaload, 1) := by decide +kernel
theorem dX8_teach_119 : decode cX8_teach 119 = .ok (.putfield 162, 3) := by decide +kernel
theorem dX8_teach_122 : decode cX8_teach 122 = .ok (.aload_n 0, 1) := by decide +kernel
theorem dX8_teach_123 : decode cX8_teach 123 = .ok (.aload_n 3, 1) := by decide +kernel
theorem dX8_teach_124 : decode cX8_teach 124 = .ok (.iconst 3, 1) := by decide +kernel
theorem dX8_teach_125 : decode cX8_teach 125 = .ok (.iaload, 1) := by decide +kernel
theorem dX8_teach_126 : decode cX8_teach 126 = .ok (.putfield 153, 3) := by decide +kernel
theorem dX8_teach_129 : decode cX8_teach 129 = .ok (.iload 4, 2) := by decide +kernel
theorem dX8_teach_131 : decode cX8_teach 131 = .ok (.ireturn, 1) := by decide +kernel
theorem dX8_errorAt_0 : decode cX8_errorAt 0 = .ok (.aload_n 0, 1) := by decide +kernel
theorem dX8_errorAt_1 : decode cX8_errorAt 1 = .ok (.iconst 0, 1) := by decide +kernel
theorem dX8_errorAt_2 : decode cX8_errorAt 2 = .ok (.putfield 91, 3) := by decide +kernel
theorem dX8_errorAt_5 : decode cX8_errorAt 5 = .ok (.aload_n 0, 1) := by decide +kernel
theorem dX8_errorAt_6 : decode cX8_errorAt 6 = .ok (.getfield 13, 3) := by decide +kernel
theorem dX8_errorAt_9 : decode cX8_errorAt 9 = .ok (.ireturn, 1) := by decide +kernel
theorem dX8_worthOf_0 : decode cX8_worthOf 0 = .ok (.iconst 0, 1) := by decide +kernel
theorem dX8_worthOf_1 : decode cX8_worthOf 1 = .ok (.istore_n 2, 1) := by decide +kernel
theorem dX8_worthOf_2 : decode cX8_worthOf 2 = .ok (.aload_n 0, 1) := by decide +kernel
theorem dX8_worthOf_3 : decode cX8_worthOf 3 = .ok (.getfield 32, 3) := by decide +kernel
theorem dX8_worthOf_6 : decode cX8_worthOf 6 = .ok (.astore_n 3, 1) := by decide +kernel
theorem dX8_worthOf_7 : decode cX8_worthOf 7 = .ok (.aload_n 3, 1) := by decide +kernel
theorem dX8_worthOf_8 : decode cX8_worthOf 8 = .ok (.arraylength, 1) := by decide +kernel
theorem dX8_worthOf_9 : decode cX8_worthOf 9 = .ok (.istore 4, 2) := by decide +kernel
theorem dX8_worthOf_11 : decode cX8_worthOf 11 = .ok (.iconst 0, 1) := by decide +kernel
theorem dX8_worthOf_12 : decode cX8_worthOf 12 = .ok (.istore 5, 2) := by decide +kernel
theorem dX8_worthOf_14 : decode cX8_worthOf 14 = .ok (.iload 5, 2) := by decide +kernel
theorem dX8_worthOf_16 : decode cX8_worthOf 16 = .ok (.iload 4, 2) := by decide +kernel
theorem dX8_worthOf_18 : decode cX8_worthOf 18 = .ok (.if_icmp .ge 39, 3) := by decide +kernel
theorem dX8_worthOf_21 : decode cX8_worthOf 21 = .ok (.aload_n 3, 1) := by decide +kernel
theorem dX8_worthOf_22 : decode cX8_worthOf 22 = .ok (.iload 5, 2) := by decide +kernel
theorem dX8_worthOf_24 : decode cX8_worthOf 24 = .ok (.iaload, 1) := by decide +kernel
theorem dX8_worthOf_25 : decode cX8_worthOf 25 = .ok (.istore 6, 2) := by decide +kernel
theorem dX8_worthOf_27 : decode cX8_worthOf 27 = .ok (.iload_n 2, 1) := by decide +kernel
theorem dX8_worthOf_28 : decode cX8_worthOf 28 = .ok (.iload 6, 2) := by decide +kernel
theorem dX8_worthOf_30 : decode cX8_worthOf 30 = .ok (.invokestatic 139, 3) := by decide +kernel
theorem dX8_worthOf_33 : decode cX8_worthOf 33 = .ok (.iload_n 1, 1) := by decide +kernel
theorem dX8_worthOf_34 : decode cX8_worthOf 34 = .ok (.if_icmp .ne 14, 3) := by decide +kernel
theorem dX8_worthOf_37 : decode cX8_worthOf 37 = .ok (.iload 6, 2) := by decide +kernel
theorem dX8_worthOf_39 : decode cX8_worthOf 39 = .ok (.invokestatic 136, 3) := by decide +kernel
theorem dX8_worthOf_42 : decode cX8_worthOf 42 = .ok (.invokestatic 286, 3) := by decide +kernel
theorem dX8_worthOf_45 : decode cX8_worthOf 45 = .ok (.goto 4, 3) := by decide +kernel
theorem dX8_worthOf_48 : decode cX8_worthOf 48 = .ok (.iconst 0, 1) := by decide +kernel
theorem dX8_worthOf_49 : decode cX8_worthOf 49 = .ok (.iadd, 1) := by decide +kernel
theorem dX8_worthOf_50 : decode cX8_worthOf 50 = .ok (.istore_n 2, 1) := by decide +kernel
theorem dX8_worthOf_51 : decode cX8_worthOf 51 = .ok (.iinc 5 1, 3) := by decide +kernel
theorem dX8_worthOf_54 : decode cX8_worthOf 54 = .ok (.goto (-40), 3) := by decide +kernel
theorem dX8_worthOf_57 : decode cX8_worthOf 57 = .ok (.iload_n 2, 1) := by decide +kernel
theorem dX8_worthOf_58 : decode cX8_worthOf 58 = .ok (.ireturn, 1) := by decide +kernel
theorem dX8_pointsOf_0 : decode cX8_pointsOf 0 = .ok (.aload_n 0, 1) := by decide +kernel
theorem dX8_pointsOf_1 : decode cX8_pointsOf 1 = .ok (.invokevirtual 289, 3) := by decide +kernel
theorem dX8_pointsOf_4 : decode cX8_pointsOf 4 = .ok (.istore_n 2, 1) := by decide +kernel
theorem dX8_pointsOf_5 : decode cX8_pointsOf 5 = .ok (.iload_n 2, 1) := by decide +kernel
theorem dX8_pointsOf_6 : decode cX8_pointsOf 6 = .ok (.iconst 2, 1) := by decide +kernel
theorem dX8_pointsOf_7 : decode cX8_pointsOf 7 = .ok (.if_icmp .ne 17, 3) := by decide +kernel
theorem dX8_pointsOf_10 : decode cX8_pointsOf 10 = .ok (.iload_n 1, 1) := by decide +kernel
theorem dX8_pointsOf_11 : decode cX8_pointsOf 11 = .ok (.aload_n 0, 1) := by decide +kernel
theorem dX8_pointsOf_12 : decode cX8_pointsOf 12 = .ok (.getfield 125, 3) := by decide +kernel
theorem dX8_pointsOf_15 : decode cX8_pointsOf 15 = .ok (.if_icmp .ne 7, 3) := by decide +kernel
theorem dX8_pointsOf_18 : decode cX8_pointsOf 18 = .ok (.iconst 0, 1) := by decide +kernel
theorem dX8_pointsOf_19 : decode cX8_pointsOf 19 = .ok (.goto 4, 3) := by decide +kernel
theorem dX8_pointsOf_22 : decode cX8_pointsOf 22 = .ok (.iconst 4, 1) := by decide +kernel
theorem dX8_pointsOf_23 : decode cX8_pointsOf 23 = .ok (.ireturn, 1) := by decide +kernel
theorem dX8_pointsOf_24 : decode cX8_pointsOf 24 = .ok (.iload_n 2, 1) := by decide +kernel
theorem dX8_pointsOf_25 : decode cX8_pointsOf 25 = .ok (.iconst 3, 1) := by decide +kernel
theorem dX8_pointsOf_26 : decode cX8_pointsOf 26 = .ok (.if_icmp .ne 17, 3) := by decide +kernel
theorem dX8_pointsOf_29 : decode cX8_pointsOf 29 = .ok (.iload_n 1, 1) := by decide +kernel
theorem dX8_pointsOf_30 : decode cX8_pointsOf 30 = .ok (.aload_n 0, 1) := by decide +kernel
theorem dX8_pointsOf_31 : decode cX8_pointsOf 31 = .ok (.getfield 125, 3) := by decide +kernel
theorem dX8_pointsOf_34 : decode cX8_pointsOf 34 = .ok (.if_icmp .ne 7, 3) := by decide +kernel
theorem dX8_pointsOf_37 : decode cX8_pointsOf 37 = .ok (.iconst 1, 1) := by decide +kernel
theorem dX8_pointsOf_38 : decode cX8_pointsOf 38 = .ok (.goto 4, 3) := by decide +kernel
theorem dX8_pointsOf_41 : decode cX8_pointsOf 41 = .ok (.iconst 3, 1) := by decide +kernel
theorem dX8_pointsOf_42 : decode cX8_pointsOf 42 = .ok (.ireturn, 1) := by decide +kernel
theorem dX8_pointsOf_43 : decode cX8_pointsOf 43 = .ok (.iload_n 2, 1) := by decide +kernel
theorem dX8_pointsOf_44 : decode cX8_pointsOf 44 = .ok (.iconst 4, 1) := by decide +kernel
theorem dX8_pointsOf_45 : decode cX8_pointsOf 45 = .ok (.if_icmp .ne 7, 3) := by decide +kernel
theorem dX8_pointsOf_48 : decode cX8_pointsOf 48 = .ok (.iconst 2, 1) := by decide +kernel
theorem dX8_pointsOf_49 : decode cX8_pointsOf 49 = .ok (.goto 4, 3) := by decide +kernel
theorem dX8_pointsOf_52 : decode cX8_pointsOf 52 = .ok (.iconst 0, 1) := by decide +kernel
theorem dX8_pointsOf_53 : decode cX8_pointsOf 53 = .ok (.ireturn, 1) := by decide +kernel
theorem dX8_counted_0 : decode cX8_counted 0 = .ok (.iload_n 1, 1) := by decide +kernel
theorem dX8_counted_1 : decode cX8_counted 1 = .ok (.tableswitch 113 0 9 #[55, 60, 65, 70, 79, 85, 91, 96, 102, 108], 55) := by decide +kernel
theorem dX8_counted_56 : decode cX8_counted 56 = .ok (.aload_n 0, 1) := by decide +kernel
theorem dX8_counted_57 : decode cX8_counted 57 = .ok (.getfield 153, 3) := by decide +kernel
theorem dX8_counted_60 : decode cX8_counted 60 = .ok (.ireturn, 1) := by decide +kernel
theorem dX8_counted_61 : decode cX8_counted 61 = .ok (.aload_n 0, 1) := by decide +kernel
theorem dX8_counted_62 : decode cX8_counted 62 = .ok (.getfield 125, 3) := by decide +kernel
theorem dX8_counted_65 : decode cX8_counted 65 = .ok (.ireturn, 1) := by decide +kernel
theorem dX8_counted_66 : decode cX8_counted 66 = .ok (.aload_n 0, 1) := by decide +kernel
theorem dX8_counted_67 : decode cX8_counted 67 = .ok (.invokevirtual 289, 3) := by decide +kernel
theorem dX8_counted_70 : decode cX8_counted 70 = .ok (.ireturn, 1) := by decide +kernel
theorem dX8_counted_71 : decode cX8_counted 71 = .ok (.aload_n 0, 1) := by decide +kernel
theorem dX8_counted_72 : decode cX8_counted 72 = .ok (.aload_n 0, 1) := by decide +kernel
theorem dX8_counted_73 : decode cX8_counted 73 = .ok (.getfield 45, 3) := by decide +kernel
theorem dX8_counted_76 : decode cX8_counted 76 = .ok (.invokevirtual 197, 3) := by decide +kernel
theorem dX8_counted_79 : decode cX8_counted 79 = .ok (.ireturn, 1) := by decide +kernel
theorem dX8_counted_80 : decode cX8_counted 80 = .ok (.aload_n 0, 1) := by decide +kernel
theorem dX8_counted_81 : decode cX8_counted 81 = .ok (.iconst 0, 1) := by decide +kernel
theorem dX8_counted_82 : decode cX8_counted 82 = .ok (.invokevirtual 292, 3) := by decide +kernel
theorem dX8_counted_85 : decode cX8_counted 85 = .ok (.ireturn, 1) := by decide +kernel
theorem dX8_counted_86 : decode cX8_counted 86 = .ok (.aload_n 0, 1) := by decide +kernel
theorem dX8_counted_87 : decode cX8_counted 87 = .ok (.iconst 1, 1) := by decide +kernel
theorem dX8_counted_88 : decode cX8_counted 88 = .ok (.invokevirtual 292, 3) := by decide +kernel
theorem dX8_counted_91 : decode cX8_counted 91 = .ok (.ireturn, 1) := by decide +kernel
theorem dX8_counted_92 : decode cX8_counted 92 = .ok (.aload_n 0, 1) := by decide +kernel
theorem dX8_counted_93 : decode cX8_counted 93 = .ok (.getfield 162, 3) := by decide +kernel
theorem dX8_counted_96 : decode cX8_counted 96 = .ok (.ireturn, 1) := by decide +kernel
theorem dX8_counted_97 : decode cX8_counted 97 = .ok (.aload_n 0, 1) := by decide +kernel
theorem dX8_counted_98 : decode cX8_counted 98 = .ok (.iconst 0, 1) := by decide +kernel
theorem dX8_counted_99 : decode cX8_counted 99 = .ok (.invokevirtual 295, 3) := by decide +kernel
theorem dX8_counted_102 : decode cX8_counted 102 = .ok (.ireturn, 1) := by decide +kernel
theorem dX8_counted_103 : decode cX8_counted 103 = .ok (.aload_n 0, 1) := by decide +kernel
theorem dX8_counted_104 : decode cX8_counted 104 = .ok (.iconst 1, 1) := by decide +kernel
theorem dX8_counted_105 : decode cX8_counted 105 = .ok (.invokevirtual 295, 3) := by decide +kernel
theorem dX8_counted_108 : decode cX8_counted 108 = .ok (.ireturn, 1) := by decide +kernel
theorem dX8_counted_109 : decode cX8_counted 109 = .ok (.aload_n 0, 1) := by decide +kernel
theorem dX8_counted_110 : decode cX8_counted 110 = .ok (.getfield 35, 3) := by decide +kernel
theorem dX8_counted_113 : decode cX8_counted 113 = .ok (.ireturn, 1) := by decide +kernel
theorem dX8_counted_114 : decode cX8_counted 114 = .ok (.aload_n 0, 1) := by decide +kernel
theorem dX8_counted_115 : decode cX8_counted 115 = .ok (.getfield 200, 3) := by decide +kernel
theorem dX8_counted_118 : decode cX8_counted 118 = .ok (.ireturn, 1) := by decide +kernel
theorem dX8_count_0 : decode cX8_count 0 = .ok (.aload_n 0, 1) := by decide +kernel
theorem dX8_count_1 : decode cX8_count 1 = .ok (.iconst 0, 1) := by decide +kernel
theorem dX8_count_2 : decode cX8_count 2 = .ok (.putfield 91, 3) := by decide +kernel
theorem dX8_count_5 : decode cX8_count 5 = .ok (.iload_n 1, 1) := by decide +kernel
theorem dX8_count_6 : decode cX8_count 6 = .ok (.iconst 0, 1) := by decide +kernel
theorem dX8_count_7 : decode cX8_count 7 = .ok (.bipush 10, 2) := by decide +kernel
theorem dX8_count_9 : decode cX8_count 9 = .ok (.invokestatic 94, 3) := by decide +kernel
theorem dX8_count_12 : decode cX8_count 12 = .ok (.ifCond .eq 11, 3) := by decide +kernel
theorem dX8_count_15 : decode cX8_count 15 = .ok (.aload_n 0, 1) := by decide +kernel
theorem dX8_count_16 : decode cX8_count 16 = .ok (.iload_n 1, 1) := by decide +kernel
theorem dX8_count_17 : decode cX8_count 17 = .ok (.invokevirtual 298, 3) := by decide +kernel
theorem dX8_count_20 : decode cX8_count 20 = .ok (.goto 8, 3) := by decide +kernel
theorem dX8_count_23 : decode cX8_count 23 = .ok (.aload_n 0, 1) := by decide +kernel
theorem dX8_count_24 : decode cX8_count 24 = .ok (.iconst 1, 1) := by decide +kernel
theorem dX8_count_25 : decode cX8_count 25 = .ok (.invokevirtual 280, 3) := by decide +kernel
theorem dX8_count_28 : decode cX8_count 28 = .ok (.ireturn, 1) := by decide +kernel
theorem dX8_movesFrom_0 : decode cX8_movesFrom 0 = .ok (.aload_n 0, 1) := by decide +kernel
theorem dX8_movesFrom_1 : decode cX8_movesFrom 1 = .ok (.aload_n 0, 1) := by decide +kernel
theorem dX8_movesFrom_2 : decode cX8_movesFrom 2 = .ok (.getfield 45, 3) := by decide +kernel
theorem dX8_movesFrom_5 : decode cX8_movesFrom 5 = .ok (.invokevirtual 197, 3) := by decide +kernel
theorem dX8_movesFrom_8 : decode cX8_movesFrom 8 = .ok (.istore_n 2, 1) := by decide +kernel
theorem dX8_movesFrom_9 : decode cX8_movesFrom 9 = .ok (.iconst 0, 1) := by decide +kernel
theorem dX8_movesFrom_10 : decode cX8_movesFrom 10 = .ok (.istore_n 3, 1) := by decide +kernel
theorem dX8_movesFrom_11 : decode cX8_movesFrom 11 = .ok (.iconst 0, 1) := by decide +kernel
theorem dX8_movesFrom_12 : decode cX8_movesFrom 12 = .ok (.istore 4, 2) := by decide +kernel
theorem dX8_movesFrom_14 : decode cX8_movesFrom 14 = .ok (.iload 4, 2) := by decide +kernel
theorem dX8_movesFrom_16 : decode cX8_movesFrom 16 = .ok (.iload_n 2, 1) := by decide +kernel
theorem dX8_movesFrom_17 : decode cX8_movesFrom 17 = .ok (.if_icmp .ge 31, 3) := by decide +kernel
theorem dX8_movesFrom_20 : decode cX8_movesFrom 20 = .ok (.iload_n 3, 1) := by decide +kernel
theorem dX8_movesFrom_21 : decode cX8_movesFrom 21 = .ok (.aload_n 0, 1) := by decide +kernel
theorem dX8_movesFrom_22 : decode cX8_movesFrom 22 = .ok (.getfield 45, 3) := by decide +kernel
theorem dX8_movesFrom_25 : decode cX8_movesFrom 25 = .ok (.iload 4, 2) := by decide +kernel
theorem dX8_movesFrom_27 : decode cX8_movesFrom 27 = .ok (.iaload, 1) := by decide +kernel
theorem dX8_movesFrom_28 : decode cX8_movesFrom 28 = .ok (.bipush 91, 2) := by decide +kernel
theorem dX8_movesFrom_30 : decode cX8_movesFrom 30 = .ok (.idiv, 1) := by decide +kernel
theorem dX8_movesFrom_31 : decode cX8_movesFrom 31 = .ok (.iload_n 1, 1) := by decide +kernel
theorem dX8_movesFrom_32 : decode cX8_movesFrom 32 = .ok (.if_icmp .ne 7, 3) := by decide +kernel
theorem dX8_movesFrom_35 : decode cX8_movesFrom 35 = .ok (.iconst 1, 1) := by decide +kernel
theorem dX8_movesFrom_36 : decode cX8_movesFrom 36 = .ok (.goto 4, 3) := by decide +kernel
theorem dX8_movesFrom_39 : decode cX8_movesFrom 39 = .ok (.iconst 0, 1) := by decide +kernel
theorem dX8_movesFrom_40 : decode cX8_movesFrom 40 = .ok (.iadd, 1) := by decide +kernel
theorem dX8_movesFrom_41 : decode cX8_movesFrom 41 = .ok (.istore_n 3, 1) := by decide +kernel
theorem dX8_movesFrom_42 : decode cX8_movesFrom 42 = .ok (.iinc 4 1, 3) := by decide +kernel
theorem dX8_movesFrom_45 : decode cX8_movesFrom 45 = .ok (.goto (-31), 3) := by decide +kernel
theorem dX8_movesFrom_48 : decode cX8_movesFrom 48 = .ok (.iload_n 3, 1) := by decide +kernel
theorem dX8_movesFrom_49 : decode cX8_movesFrom 49 = .ok (.ireturn, 1) := by decide +kernel
theorem dX8_cellTold_0 : decode cX8_cellTold 0 = .ok (.iload_n 2, 1) := by decide +kernel
theorem dX8_cellTold_1 : decode cX8_cellTold 1 = .ok (.tableswitch 76 0 3 #[31, 41, 51, 70], 31) := by decide +kernel
theorem dX8_cellTold_32 : decode cX8_cellTold 32 = .ok (.aload_n 0, 1) := by decide +kernel
theorem dX8_cellTold_33 : decode cX8_cellTold 33 = .ok (.getfield 32, 3) := by decide +kernel
theorem dX8_cellTold_36 : decode cX8_cellTold 36 = .ok (.iload_n 1, 1) := by decide +kernel
theorem dX8_cellTold_37 : decode cX8_cellTold 37 = .ok (.iaload, 1) := by decide +kernel
theorem dX8_cellTold_38 : decode cX8_cellTold 38 = .ok (.invokestatic 136, 3) := by decide +kernel
theorem dX8_cellTold_41 : decode cX8_cellTold 41 = .ok (.ireturn, 1) := by decide +kernel
theorem dX8_cellTold_42 : decode cX8_cellTold 42 = .ok (.aload_n 0, 1) := by decide +kernel
theorem dX8_cellTold_43 : decode cX8_cellTold 43 = .ok (.getfield 32, 3) := by decide +kernel
theorem dX8_cellTold_46 : decode cX8_cellTold 46 = .ok (.iload_n 1, 1) := by decide +kernel
theorem dX8_cellTold_47 : decode cX8_cellTold 47 = .ok (.iaload, 1) := by decide +kernel
theorem dX8_cellTold_48 : decode cX8_cellTold 48 = .ok (.invokestatic 139, 3) := by decide +kernel
theorem dX8_cellTold_51 : decode cX8_cellTold 51 = .ok (.ireturn, 1) := by decide +kernel
theorem dX8_cellTold_52 : decode cX8_cellTold 52 = .ok (.aload_n 0, 1) := by decide +kernel
theorem dX8_cellTold_53 : decode cX8_cellTold 53 = .ok (.getfield 17, 3) := by decide +kernel
theorem dX8_cellTold_56 : decode cX8_cellTold 56 = .ok (.iload_n 1, 1) := by decide +kernel
theorem dX8_cellTold_57 : decode cX8_cellTold 57 = .ok (.iaload, 1) := by decide +kernel
theorem dX8_cellTold_58 : decode cX8_cellTold 58 = .ok (.aload_n 0, 1) := by decide +kernel
theorem dX8_cellTold_59 : decode cX8_cellTold 59 = .ok (.getfield 20, 3) := by decide +kernel
theorem dX8_cellTold_62 : decode cX8_cellTold 62 = .ok (.iload_n 1, 1) := by decide +kernel
theorem dX8_cellTold_63 : decode cX8_cellTold 63 = .ok (.iaload, 1) := by decide +kernel
theorem dX8_cellTold_64 : decode cX8_cellTold 64 = .ok (.isub, 1) := by decide +kernel
theorem dX8_cellTold_65 : decode cX8_cellTold 65 = .ok (.bipush 30, 2) := by decide +kernel
theorem dX8_cellTold_67 : decode cX8_cellTold 67 = .ok (.iadd, 1) := by decide +kernel
theorem dX8_cellTold_68 : decode cX8_cellTold 68 = .ok (.iconst 3, 1) := by decide +kernel
theorem dX8_cellTold_69 : decode cX8_cellTold 69 = .ok (.irem, 1) := by decide +kernel
theorem dX8_cellTold_70 : decode cX8_cellTold 70 = .ok (.ireturn, 1) := by decide +kernel
theorem dX8_cellTold_71 : decode cX8_cellTold 71 = .ok (.aload_n 0, 1) := by decide +kernel
theorem dX8_cellTold_72 : decode cX8_cellTold 72 = .ok (.iload_n 1, 1) := by decide +kernel
theorem dX8_cellTold_73 : decode cX8_cellTold 73 = .ok (.invokevirtual 301, 3) := by decide +kernel
theorem dX8_cellTold_76 : decode cX8_cellTold 76 = .ok (.ireturn, 1) := by decide +kernel
theorem dX8_cellTold_77 : decode cX8_cellTold 77 = .ok (.aload_n 0, 1) := by decide +kernel
theorem dX8_cellTold_78 : decode cX8_cellTold 78 = .ok (.iload_n 1, 1) := by decide +kernel
theorem dX8_cellTold_79 : decode cX8_cellTold 79 = .ok (.iload_n 2, 1) := by decide +kernel
theorem dX8_cellTold_80 : decode cX8_cellTold 80 = .ok (.iconst 4, 1) := by decide +kernel
theorem dX8_cellTold_81 : decode cX8_cellTold 81 = .ok (.isub, 1) := by decide +kernel
theorem dX8_cellTold_82 : decode cX8_cellTold 82 = .ok (.invokevirtual 122, 3) := by decide +kernel
theorem dX8_cellTold_85 : decode cX8_cellTold 85 = .ok (.ireturn, 1) := by decide +kernel
theorem dX8_cell_0 : decode cX8_cell 0 = .ok (.aload_n 0, 1) := by decide +kernel
theorem dX8_cell_1 : decode cX8_cell 1 = .ok (.iconst 0, 1) := by decide +kernel
theorem dX8_cell_2 : decode cX8_cell 2 = .ok (.putfield 91, 3) := by decide +kernel
theorem dX8_cell_5 : decode cX8_cell 5 = .ok (.iload_n 1, 1) := by decide +kernel
theorem dX8_cell_6 : decode cX8_cell 6 = .ok (.invokestatic 304, 3) := by decide +kernel
theorem dX8_cell_9 : decode cX8_cell 9 = .ok (.ifCond .eq 21, 3) := by decide +kernel
theorem dX8_cell_12 : decode cX8_cell 12 = .ok (.iload_n 2, 1) := by decide +kernel
theorem dX8_cell_13 : decode cX8_cell 13 = .ok (.iconst 0, 1) := by decide +kernel
theorem dX8_cell_14 : decode cX8_cell 14 = .ok (.iconst 5, 1) := by decide +kernel
theorem dX8_cell_15 : decode cX8_cell 15 = .ok (.invokestatic 94, 3) := by decide +kernel
theorem dX8_cell_18 : decode cX8_cell 18 = .ok (.ifCond .eq 12, 3) := by decide +kernel
theorem dX8_cell_21 : decode cX8_cell 21 = .ok (.aload_n 0, 1) := by decide +kernel
theorem dX8_cell_22 : decode cX8_cell 22 = .ok (.iload_n 1, 1) := by decide +kernel
theorem dX8_cell_23 : decode cX8_cell 23 = .ok (.iload_n 2, 1) := by decide +kernel
theorem dX8_cell_24 : decode cX8_cell 24 = .ok (.invokevirtual 307, 3) := by decide +kernel
theorem dX8_cell_27 : decode cX8_cell 27 = .ok (.goto 8, 3) := by decide +kernel
theorem dX8_cell_30 : decode cX8_cell 30 = .ok (.aload_n 0, 1) := by decide +kernel
theorem dX8_cell_31 : decode cX8_cell 31 = .ok (.iconst 1, 1) := by decide +kernel
theorem dX8_cell_32 : decode cX8_cell 32 = .ok (.invokevirtual 280, 3) := by decide +kernel
theorem dX8_cell_35 : decode cX8_cell 35 = .ok (.ireturn, 1) := by decide +kernel
theorem dX8_at_0 : decode cX8_at 0 = .ok (.aload_n 0, 1) := by decide +kernel
theorem dX8_at_1 : decode cX8_at 1 = .ok (.iconst 0, 1) := by decide +kernel
theorem dX8_at_2 : decode cX8_at 2 = .ok (.putfield 91, 3) := by decide +kernel
theorem dX8_at_5 : decode cX8_at 5 = .ok (.iload_n 1, 1) := by decide +kernel
theorem dX8_at_6 : decode cX8_at 6 = .ok (.iconst 0, 1) := by decide +kernel
theorem dX8_at_7 : decode cX8_at 7 = .ok (.bipush 10, 2) := by decide +kernel
theorem dX8_at_9 : decode cX8_at 9 = .ok (.invokestatic 94, 3) := by decide +kernel
theorem dX8_at_12 : decode cX8_at 12 = .ok (.ifCond .eq 28, 3) := by decide +kernel
theorem dX8_at_15 : decode cX8_at 15 = .ok (.iload_n 2, 1) := by decide +kernel
theorem dX8_at_16 : decode cX8_at 16 = .ok (.iconst 1, 1) := by decide +kernel
theorem dX8_at_17 : decode cX8_at 17 = .ok (.iload_n 1, 1) := by decide +kernel
theorem dX8_at_18 : decode cX8_at 18 = .ok (.invokestatic 66, 3) := by decide +kernel
theorem dX8_at_21 : decode cX8_at 21 = .ok (.invokestatic 94, 3) := by decide +kernel
theorem dX8_at_24 : decode cX8_at 24 = .ok (.ifCond .eq 16, 3) := by decide +kernel
theorem dX8_at_27 : decode cX8_at 27 = .ok (.aload_n 0, 1) := by decide +kernel
theorem dX8_at_28 : decode cX8_at 28 = .ok (.getfield 23, 3) := by decide +kernel
theorem dX8_at_31 : decode cX8_at 31 = .ok (.iload_n 1, 1) := by decide +kernel
theorem dX8_at_32 : decode cX8_at 32 = .ok (.iaload, 1) := by decide +kernel
theorem dX8_at_33 : decode cX8_at 33 = .ok (.iload_n 2, 1) := by decide +kernel
theorem dX8_at_34 : decode cX8_at 34 = .ok (.iadd, 1) := by decide +kernel
theorem dX8_at_35 : decode cX8_at 35 = .ok (.iconst 1, 1) := by decide +kernel
theorem dX8_at_36 : decode cX8_at 36 = .ok (.isub, 1) := by decide +kernel
theorem dX8_at_37 : decode cX8_at 37 = .ok (.goto 8, 3) := by decide +kernel
theorem dX8_at_40 : decode cX8_at 40 = .ok (.aload_n 0, 1) := by decide +kernel
theorem dX8_at_41 : decode cX8_at 41 = .ok (.iconst 1, 1) := by decide +kernel
theorem dX8_at_42 : decode cX8_at 42 = .ok (.invokevirtual 280, 3) := by decide +kernel
theorem dX8_at_45 : decode cX8_at 45 = .ok (.ireturn, 1) := by decide +kernel
theorem dX8_name_0 : decode cX8_name 0 = .ok (.aload_n 0, 1) := by decide +kernel
theorem dX8_name_1 : decode cX8_name 1 = .ok (.iconst 0, 1) := by decide +kernel
theorem dX8_name_2 : decode cX8_name 2 = .ok (.putfield 91, 3) := by decide +kernel
theorem dX8_name_5 : decode cX8_name 5 = .ok (.iload_n 1, 1) := by decide +kernel
theorem dX8_name_6 : decode cX8_name 6 = .ok (.invokestatic 304, 3) := by decide +kernel
theorem dX8_name_9 : decode cX8_name 9 = .ok (.ifCond .ne 9, 3) := by decide +kernel
theorem dX8_name_12 : decode cX8_name 12 = .ok (.aload_n 0, 1) := by decide +kernel
theorem dX8_name_13 : decode cX8_name 13 = .ok (.iconst 1, 1) := by decide +kernel
theorem dX8_name_14 : decode cX8_name 14 = .ok (.invokevirtual 280, 3) := by decide +kernel
theorem dX8_name_17 : decode cX8_name 17 = .ok (.ireturn, 1) := by decide +kernel
theorem dX8_name_18 : decode cX8_name 18 = .ok (.aload_n 0, 1) := by decide +kernel
theorem dX8_name_19 : decode cX8_name 19 = .ok (.getfield 17, 3) := by decide +kernel
theorem dX8_name_22 : decode cX8_name 22 = .ok (.iload_n 1, 1) := by decide +kernel
theorem dX8_name_23 : decode cX8_name 23 = .ok (.iaload, 1) := by decide +kernel
theorem dX8_name_24 : decode cX8_name 24 = .ok (.iconst 5, 1) := by decide +kernel
theorem dX8_name_25 : decode cX8_name 25 = .ok (.iadd, 1) := by decide +kernel
theorem dX8_name_26 : decode cX8_name 26 = .ok (.istore_n 2, 1) := by decide +kernel
theorem dX8_name_27 : decode cX8_name 27 = .ok (.bipush 100, 2) := by decide +kernel
theorem dX8_name_29 : decode cX8_name 29 = .ok (.iload_n 2, 1) := by decide +kernel
theorem dX8_name_30 : decode cX8_name 30 = .ok (.imul, 1) := by decide +kernel
theorem dX8_name_31 : decode cX8_name 31 = .ok (.iload_n 1, 1) := by decide +kernel
theorem dX8_name_32 : decode cX8_name 32 = .ok (.iadd, 1) := by decide +kernel
theorem dX8_name_33 : decode cX8_name 33 = .ok (.aload_n 0, 1) := by decide +kernel
theorem dX8_name_34 : decode cX8_name 34 = .ok (.getfield 23, 3) := by decide +kernel
theorem dX8_name_37 : decode cX8_name 37 = .ok (.iload_n 2, 1) := by decide +kernel
theorem dX8_name_38 : decode cX8_name 38 = .ok (.iaload, 1) := by decide +kernel
theorem dX8_name_39 : decode cX8_name 39 = .ok (.isub, 1) := by decide +kernel
theorem dX8_name_40 : decode cX8_name 40 = .ok (.iconst 1, 1) := by decide +kernel
theorem dX8_name_41 : decode cX8_name 41 = .ok (.iadd, 1) := by decide +kernel
theorem dX8_name_42 : decode cX8_name 42 = .ok (.ireturn, 1) := by decide +kernel
theorem dX8_reach_0 : decode cX8_reach 0 = .ok (.iload_n 1, 1) := by decide +kernel
theorem dX8_reach_1 : decode cX8_reach 1 = .ok (.iconst (-1), 1) := by decide +kernel
theorem dX8_reach_2 : decode cX8_reach 2 = .ok (.if_icmp .eq 13, 3) := by decide +kernel
theorem dX8_reach_5 : decode cX8_reach 5 = .ok (.aload_n 0, 1) := by decide +kernel
theorem dX8_reach_6 : decode cX8_reach 6 = .ok (.getfield 51, 3) := by decide +kernel
theorem dX8_reach_9 : decode cX8_reach 9 = .ok (.iload_n 1, 1) := by decide +kernel
theorem dX8_reach_10 : decode cX8_reach 10 = .ok (.iaload, 1) := by decide +kernel
theorem dX8_reach_11 : decode cX8_reach 11 = .ok (.iconst (-1), 1) := by decide +kernel
theorem dX8_reach_12 : decode cX8_reach 12 = .ok (.if_icmp .eq 5, 3) := by decide +kernel
theorem dX8_reach_15 : decode cX8_reach 15 = .ok (.iload_n 3, 1) := by decide +kernel
theorem dX8_reach_16 : decode cX8_reach 16 = .ok (.ireturn, 1) := by decide +kernel
theorem dX8_reach_17 : decode cX8_reach 17 = .ok (.aload_n 0, 1) := by decide +kernel
theorem dX8_reach_18 : decode cX8_reach 18 = .ok (.getfield 51, 3) := by decide +kernel
theorem dX8_reach_21 : decode cX8_reach 21 = .ok (.iload_n 1, 1) := by decide +kernel
theorem dX8_reach_22 : decode cX8_reach 22 = .ok (.iload_n 2, 1) := by decide +kernel
theorem dX8_reach_23 : decode cX8_reach 23 = .ok (.iastore, 1) := by decide +kernel
theorem dX8_reach_24 : decode cX8_reach 24 = .ok (.aload_n 0, 1) := by decide +kernel
theorem dX8_reach_25 : decode cX8_reach 25 = .ok (.getfield 54, 3) := by decide +kernel
theorem dX8_reach_28 : decode cX8_reach 28 = .ok (.iload_n 3, 1) := by decide +kernel
theorem dX8_reach_29 : decode cX8_reach 29 = .ok (.iload_n 1, 1) := by decide +kernel
theorem dX8_reach_30 : decode cX8_reach 30 = .ok (.iastore, 1) := by decide +kernel
theorem dX8_reach_31 : decode cX8_reach 31 = .ok (.iload_n 3, 1) := by decide +kernel
theorem dX8_reach_32 : decode cX8_reach 32 = .ok (.iconst 1, 1) := by decide +kernel
theorem dX8_reach_33 : decode cX8_reach 33 = .ok (.iadd, 1) := by decide +kernel
theorem dX8_reach_34 : decode cX8_reach 34 = .ok (.ireturn, 1) := by decide +kernel
theorem dX8_spread_0 : decode cX8_spread 0 = .ok (.iload_n 3, 1) := by decide +kernel
theorem dX8_spread_1 : decode cX8_spread 1 = .ok (.istore 4, 2) := by decide +kernel
theorem dX8_spread_3 : decode cX8_spread 3 = .ok (.iconst 0, 1) := by decide +kernel
theorem dX8_spread_4 : decode cX8_spread 4 = .ok (.istore 5, 2) := by decide +kernel
theorem dX8_spread_6 : decode cX8_spread 6 = .ok (.iload 5, 2) := by decide +kernel
theorem dX8_spread_8 : decode cX8_spread 8 = .ok (.bipush 12, 2) := by decide +kernel
theorem dX8_spread_10 : decode cX8_spread 10 = .ok (.if_icmp .ge 154, 3) := by decide +kernel
theorem dX8_spread_13 : decode cX8_spread 13 = .ok (.iload_n 1, 1) := by decide +kernel
theorem dX8_spread_14 : decode cX8_spread 14 = .ok (.iconst 5, 1) := by decide +kernel
theorem dX8_spread_15 : decode cX8_spread 15 = .ok (.if_icmp .ne 31, 3) := by decide +kernel
theorem dX8_spread_18 : decode cX8_spread 18 = .ok (.aload_n 0, 1) := by decide +kernel
theorem dX8_spread_19 : decode cX8_spread 19 = .ok (.aload_n 0, 1) := by decide +kernel
theorem dX8_spread_20 : decode cX8_spread 20 = .ok (.getfield 29, 3) := by decide +kernel
theorem dX8_spread_23 : decode cX8_spread 23 = .ok (.bipush 12, 2) := by decide +kernel
theorem dX8_spread_25 : decode cX8_spread 25 = .ok (.iload_n 2, 1) := by decide +kernel
theorem dX8_spread_26 : decode cX8_spread 26 = .ok (.imul, 1) := by decide +kernel
theorem dX8_spread_27 : decode cX8_spread 27 = .ok (.iload 5, 2) := by decide +kernel
theorem dX8_spread_29 : decode cX8_spread 29 = .ok (.iadd, 1) := by decide +kernel
theorem dX8_spread_30 : decode cX8_spread 30 = .ok (.iaload, 1) := by decide +kernel
theorem dX8_spread_31 : decode cX8_spread 31 = .ok (.aload_n 0, 1) := by decide +kernel
theorem dX8_spread_32 : decode cX8_spread 32 = .ok (.getfield 51, 3) := by decide +kernel
theorem dX8_spread_35 : decode cX8_spread 35 = .ok (.iload_n 2, 1) := by decide +kernel
theorem dX8_spread_36 : decode cX8_spread 36 = .ok (.iaload, 1) := by decide +kernel
theorem dX8_spread_37 : decode cX8_spread 37 = .ok (.iconst 1, 1) := by decide +kernel
theorem dX8_spread_38 : decode cX8_spread 38 = .ok (.iadd, 1) := by decide +kernel
theorem dX8_spread_39 : decode cX8_spread 39 = .ok (.iload 4, 2) := by decide +kernel
theorem dX8_spread_41 : decode cX8_spread 41 = .ok (.invokevirtual 310, 3) := by decide +kernel
theorem dX8_spread_44 : decode cX8_spread 44 = .ok (.istore 4, 2) := by decide +kernel
theorem dX8_spread_46 : decode cX8_spread 46 = .ok (.iload_n 1, 1) := by decide +kernel
theorem dX8_spread_47 : decode cX8_spread 47 = .ok (.iconst 1, 1) := by decide +kernel
theorem dX8_spread_48 : decode cX8_spread 48 = .ok (.if_icmp .ne 31, 3) := by decide +kernel
theorem dX8_spread_51 : decode cX8_spread 51 = .ok (.aload_n 0, 1) := by decide +kernel
theorem dX8_spread_52 : decode cX8_spread 52 = .ok (.aload_n 0, 1) := by decide +kernel
theorem dX8_spread_53 : decode cX8_spread 53 = .ok (.getfield 26, 3) := by decide +kernel
theorem dX8_spread_56 : decode cX8_spread 56 = .ok (.bipush 12, 2) := by decide +kernel
theorem dX8_spread_58 : decode cX8_spread 58 = .ok (.iload_n 2, 1) := by decide +kernel
theorem dX8_spread_59 : decode cX8_spread 59 = .ok (.imul, 1) := by decide +kernel
theorem dX8_spread_60 : decode cX8_spread 60 = .ok (.iload 5, 2) := by decide +kernel
theorem dX8_spread_62 : decode cX8_spread 62 = .ok (.iadd, 1) := by decide +kernel
theorem dX8_spread_63 : decode cX8_spread 63 = .ok (.iaload, 1) := by decide +kernel
theorem dX8_spread_64 : decode cX8_spread 64 = .ok (.aload_n 0, 1) := by decide +kernel
theorem dX8_spread_65 : decode cX8_spread 65 = .ok (.getfield 51, 3) := by decide +kernel
theorem dX8_spread_68 : decode cX8_spread 68 = .ok (.iload_n 2, 1) := by decide +kernel
theorem dX8_spread_69 : decode cX8_spread 69 = .ok (.iaload, 1) := by decide +kernel
theorem dX8_spread_70 : decode cX8_spread 70 = .ok (.iconst 1, 1) := by decide +kernel
theorem dX8_spread_71 : decode cX8_spread 71 = .ok (.iadd, 1) := by decide +kernel
theorem dX8_spread_72 : decode cX8_spread 72 = .ok (.iload 4, 2) := by decide +kernel
theorem dX8_spread_74 : decode cX8_spread 74 = .ok (.invokevirtual 310, 3) := by decide +kernel
theorem dX8_spread_77 : decode cX8_spread 77 = .ok (.istore 4, 2) := by decide +kernel
theorem dX8_spread_79 : decode cX8_spread 79 = .ok (.iload_n 1, 1) := by decide +kernel
theorem dX8_spread_80 : decode cX8_spread 80 = .ok (.iconst 2, 1) := by decide +kernel
theorem dX8_spread_81 : decode cX8_spread 81 = .ok (.if_icmp .eq 19, 3) := by decide +kernel
theorem dX8_spread_84 : decode cX8_spread 84 = .ok (.iload_n 1, 1) := by decide +kernel
theorem dX8_spread_85 : decode cX8_spread 85 = .ok (.iload 5, 2) := by decide +kernel
theorem dX8_spread_87 : decode cX8_spread 87 = .ok (.bipush 6, 2) := by decide +kernel
theorem dX8_spread_89 : decode cX8_spread 89 = .ok (.if_icmp .ge 7, 3) := by decide +kernel
theorem dX8_spread_92 : decode cX8_spread 92 = .ok (.iconst 3, 1) := by decide +kernel
theorem dX8_spread_93 : decode cX8_spread 93 = .ok (.goto 4, 3) := by decide +kernel
theorem dX8_spread_96 : decode cX8_spread 96 = .ok (.iconst 4, 1) := by decide +kernel
theorem dX8_spread_97 : decode cX8_spread 97 = .ok (.if_icmp .ne 7, 3) := by decide +kernel
theorem dX8_spread_100 : decode cX8_spread 100 = .ok (.iconst 1, 1) := by decide +kernel
theorem dX8_spread_101 : decode cX8_spread 101 = .ok (.goto 4, 3) := by decide +kernel
theorem dX8_spread_104 : decode cX8_spread 104 = .ok (.iconst 0, 1) := by decide +kernel
theorem dX8_spread_105 : decode cX8_spread 105 = .ok (.istore 6, 2) := by decide +kernel
theorem dX8_spread_107 : decode cX8_spread 107 = .ok (.aload_n 0, 1) := by decide +kernel
theorem dX8_spread_108 : decode cX8_spread 108 = .ok (.iload_n 2, 1) := by decide +kernel
theorem dX8_spread_109 : decode cX8_spread 109 = .ok (.iload 5, 2) := by decide +kernel
theorem dX8_spread_111 : decode cX8_spread 111 = .ok (.invokevirtual 107, 3) := by decide +kernel
theorem dX8_spread_114 : decode cX8_spread 114 = .ok (.istore 7, 2) := by decide +kernel
theorem dX8_spread_116 : decode cX8_spread 116 = .ok (.iload 7, 2) := by decide +kernel
theorem dX8_spread_118 : decode cX8_spread 118 = .ok (.iconst (-1), 1) := by decide +kernel
theorem dX8_spread_119 : decode cX8_spread 119 = .ok (.if_icmp .eq 39, 3) := by decide +kernel
theorem dX8_spread_122 : decode cX8_spread 122 = .ok (.iload 6, 2) := by decide +kernel
theorem dX8_spread_124 : decode cX8_spread 124 = .ok (.ifCond .eq 34, 3) := by decide +kernel
theorem dX8_spread_127 : decode cX8_spread 127 = .ok (.aload_n 0, 1) := by decide +kernel
theorem dX8_spread_128 : decode cX8_spread 128 = .ok (.iload 7, 2) := by decide +kernel
theorem dX8_spread_130 : decode cX8_spread 130 = .ok (.aload_n 0, 1) := by decide +kernel
theorem dX8_spread_131 : decode cX8_spread 131 = .ok (.getfield 51, 3) := by decide +kernel
theorem dX8_spread_134 : decode cX8_spread 134 = .ok (.iload_n 2, 1) := by decide +kernel
theorem dX8_spread_135 : decode cX8_spread 135 = .ok (.iaload, 1) := by decide +kernel
theorem dX8_spread_136 : decode cX8_spread 136 = .ok (.iconst 1, 1) := by decide +kernel
theorem dX8_spread_137 : decode cX8_spread 137 = .ok (.iadd, 1) := by decide +kernel
theorem dX8_spread_138 : decode cX8_spread 138 = .ok (.iload 4, 2) := by decide +kernel
theorem dX8_spread_140 : decode cX8_spread 140 = .ok (.invokevirtual 310, 3) := by decide +kernel
theorem dX8_spread_143 : decode cX8_spread 143 = .ok (.istore 4, 2) := by decide +kernel
theorem dX8_spread_145 : decode cX8_spread 145 = .ok (.aload_n 0, 1) := by decide +kernel
theorem dX8_spread_146 : decode cX8_spread 146 = .ok (.iload 7, 2) := by decide +kernel
theorem dX8_spread_148 : decode cX8_spread 148 = .ok (.iload 5, 2) := by decide +kernel
theorem dX8_spread_150 : decode cX8_spread 150 = .ok (.invokevirtual 107, 3) := by decide +kernel
theorem dX8_spread_153 : decode cX8_spread 153 = .ok (.istore 7, 2) := by decide +kernel
theorem dX8_spread_155 : decode cX8_spread 155 = .ok (.goto (-39), 3) := by decide +kernel
theorem dX8_spread_158 : decode cX8_spread 158 = .ok (.iinc 5 1, 3) := by decide +kernel
theorem dX8_spread_161 : decode cX8_spread 161 = .ok (.goto (-155), 3) := by decide +kernel
theorem dX8_spread_164 : decode cX8_spread 164 = .ok (.iload 4, 2) := by decide +kernel
theorem dX8_spread_166 : decode cX8_spread 166 = .ok (.ireturn, 1) := by decide +kernel
theorem dX8_far_0 : decode cX8_far 0 = .ok (.aload_n 0, 1) := by decide +kernel
theorem dX8_far_1 : decode cX8_far 1 = .ok (.iconst 0, 1) := by decide +kernel
theorem dX8_far_2 : decode cX8_far 2 = .ok (.putfield 91, 3) := by decide +kernel
theorem dX8_far_5 : decode cX8_far 5 = .ok (.iload_n 1, 1) := by decide +kernel
theorem dX8_far_6 : decode cX8_far 6 = .ok (.iconst 1, 1) := by decide +kernel
theorem dX8_far_7 : decode cX8_far 7 = .ok (.iconst 5, 1) := by decide +kernel
theorem dX8_far_8 : decode cX8_far 8 = .ok (.invokestatic 94, 3) := by decide +kernel
theorem dX8_far_11 : decode cX8_far 11 = .ok (.ifCond .ne 9, 3) := by decide +kernel
theorem dX8_far_14 : decode cX8_far 14 = .ok (.aload_n 0, 1) := by decide +kernel
theorem dX8_far_15 : decode cX8_far 15 = .ok (.iconst 1, 1) := by decide +kernel
theorem dX8_far_16 : decode cX8_far 16 = .ok (.invokevirtual 280, 3) := by decide +kernel
theorem dX8_far_19 : decode cX8_far 19 = .ok (.ireturn, 1) := by decide +kernel
theorem dX8_far_20 : decode cX8_far 20 = .ok (.iload_n 2, 1) := by decide +kernel
theorem dX8_far_21 : decode cX8_far 21 = .ok (.invokestatic 304, 3) := by decide +kernel
theorem dX8_far_24 : decode cX8_far 24 = .ok (.ifCond .eq 10, 3) := by decide +kernel
theorem dX8_far_27 : decode cX8_far 27 = .ok (.iload_n 3, 1) := by decide +kernel
theorem dX8_far_28 : decode cX8_far 28 = .ok (.invokestatic 304, 3) := by decide +kernel
theorem dX8_far_31 : decode cX8_far 31 = .ok (.ifCond .ne 9, 3) := by decide +kernel
theorem dX8_far_34 : decode cX8_far 34 = .ok (.aload_n 0, 1) := by decide +kernel
theorem dX8_far_35 : decode cX8_far 35 = .ok (.iconst 2, 1) := by decide +kernel
theorem dX8_far_36 : decode cX8_far 36 = .ok (.invokevirtual 280, 3) := by decide +kernel
theorem dX8_far_39 : decode cX8_far 39 = .ok (.ireturn, 1) := by decide +kernel
theorem dX8_far_40 : decode cX8_far 40 = .ok (.iconst 0, 1) := by decide +kernel
theorem dX8_far_41 : decode cX8_far 41 = .ok (.istore 4, 2) := by decide +kernel
theorem dX8_far_43 : decode cX8_far 43 = .ok (.iload 4, 2) := by decide +kernel
theorem dX8_far_45 : decode cX8_far 45 = .ok (.bipush 91, 2) := by decide +kernel
theorem dX8_far_47 : decode cX8_far 47 = .ok (.if_icmp .ge 17, 3) := by decide +kernel
theorem dX8_far_50 : decode cX8_far 50 = .ok (.aload_n 0, 1) := by decide +kernel
theorem dX8_far_51 : decode cX8_far 51 = .ok (.getfield 51, 3) := by decide +kernel
theorem dX8_far_54 : decode cX8_far 54 = .ok (.iload 4, 2) := by decide +kernel
theorem dX8_far_56 : decode cX8_far 56 = .ok (.iconst (-1), 1) := by decide +kernel
theorem dX8_far_57 : decode cX8_far 57 = .ok (.iastore, 1) := by decide +kernel
theorem dX8_far_58 : decode cX8_far 58 = .ok (.iinc 4 1, 3) := by decide +kernel
theorem dX8_far_61 : decode cX8_far 61 = .ok (.goto (-18), 3) := by decide +kernel
theorem dX8_far_64 : decode cX8_far 64 = .ok (.aload_n 0, 1) := by decide +kernel
theorem dX8_far_65 : decode cX8_far 65 = .ok (.iload_n 2, 1) := by decide +kernel
theorem dX8_far_66 : decode cX8_far 66 = .ok (.iconst 0, 1) := by decide +kernel
theorem dX8_far_67 : decode cX8_far 67 = .ok (.iconst 0, 1) := by decide +kernel
theorem dX8_far_68 : decode cX8_far 68 = .ok (.invokevirtual 310, 3) := by decide +kernel
theorem dX8_far_71 : decode cX8_far 71 = .ok (.istore 4, 2) := by decide +kernel
theorem dX8_far_73 : decode cX8_far 73 = .ok (.iconst 0, 1) := by decide +kernel
theorem dX8_far_74 : decode cX8_far 74 = .ok (.istore 5, 2) := by decide +kernel
theorem dX8_far_76 : decode cX8_far 76 = .ok (.iload 5, 2) := by decide +kernel
theorem dX8_far_78 : decode cX8_far 78 = .ok (.iload 4, 2) := by decide +kernel
theorem dX8_far_80 : decode cX8_far 80 = .ok (.if_icmp .ge 25, 3) := by decide +kernel
theorem dX8_far_83 : decode cX8_far 83 = .ok (.aload_n 0, 1) := by decide +kernel
theorem dX8_far_84 : decode cX8_far 84 = .ok (.iload_n 1, 1) := by decide +kernel
theorem dX8_far_85 : decode cX8_far 85 = .ok (.aload_n 0, 1) := by decide +kernel
theorem dX8_far_86 : decode cX8_far 86 = .ok (.getfield 54, 3) := by decide +kernel
theorem dX8_far_89 : decode cX8_far 89 = .ok (.iload 5, 2) := by decide +kernel
theorem dX8_far_91 : decode cX8_far 91 = .ok (.iaload, 1) := by decide +kernel
theorem dX8_far_92 : decode cX8_far 92 = .ok (.iload 4, 2) := by decide +kernel
theorem dX8_far_94 : decode cX8_far 94 = .ok (.invokevirtual 313, 3) := by decide +kernel
theorem dX8_far_97 : decode cX8_far 97 = .ok (.istore 4, 2) := by decide +kernel
theorem dX8_far_99 : decode cX8_far 99 = .ok (.iinc 5 1, 3) := by decide +kernel
theorem dX8_far_102 : decode cX8_far 102 = .ok (.goto (-26), 3) := by decide +kernel
theorem dX8_far_105 : decode cX8_far 105 = .ok (.aload_n 0, 1) := by decide +kernel
theorem dX8_far_106 : decode cX8_far 106 = .ok (.getfield 51, 3) := by decide +kernel
theorem dX8_far_109 : decode cX8_far 109 = .ok (.iload_n 3, 1) := by decide +kernel
theorem dX8_far_110 : decode cX8_far 110 = .ok (.iaload, 1) := by decide +kernel
theorem dX8_far_111 : decode cX8_far 111 = .ok (.ireturn, 1) := by decide +kernel
theorem dX8_legal_0 : decode cX8_legal 0 = .ok (.aload_n 0, 1) := by decide +kernel
theorem dX8_legal_1 : decode cX8_legal 1 = .ok (.iload_n 1, 1) := by decide +kernel
theorem dX8_legal_2 : decode cX8_legal 2 = .ok (.invokestatic 304, 3) := by decide +kernel
theorem dX8_legal_5 : decode cX8_legal 5 = .ok (.ifCond .eq 14, 3) := by decide +kernel
theorem dX8_legal_8 : decode cX8_legal 8 = .ok (.iload_n 2, 1) := by decide +kernel
theorem dX8_legal_9 : decode cX8_legal 9 = .ok (.invokestatic 304, 3) := by decide +kernel
theorem dX8_legal_12 : decode cX8_legal 12 = .ok (.ifCond .eq 7, 3) := by decide +kernel
theorem dX8_legal_15 : decode cX8_legal 15 = .ok (.iconst 0, 1) := by decide +kernel
theorem dX8_legal_16 : decode cX8_legal 16 = .ok (.goto 4, 3) := by decide +kernel
theorem dX8_legal_19 : decode cX8_legal 19 = .ok (.iconst 1, 1) := by decide +kernel
theorem dX8_legal_20 : decode cX8_legal 20 = .ok (.putfield 91, 3) := by decide +kernel
theorem dX8_legal_23 : decode cX8_legal 23 = .ok (.aload_n 0, 1) := by decide +kernel
theorem dX8_legal_24 : decode cX8_legal 24 = .ok (.getfield 91, 3) := by decide +kernel
theorem dX8_legal_27 : decode cX8_legal 27 = .ok (.ifCond .ne 21, 3) := by decide +kernel
theorem dX8_legal_30 : decode cX8_legal 30 = .ok (.aload_n 0, 1) := by decide +kernel
theorem dX8_legal_31 : decode cX8_legal 31 = .ok (.bipush 91, 2) := by decide +kernel
theorem dX8_legal_33 : decode cX8_legal 33 = .ok (.iload_n 1, 1) := by decide +kernel
theorem dX8_legal_34 : decode cX8_legal 34 = .ok (.imul, 1) := by decide +kernel
theorem dX8_legal_35 : decode cX8_legal 35 = .ok (.iload_n 2, 1) := by decide +kernel
theorem dX8_legal_36 : decode cX8_legal 36 = .ok (.iadd, 1) := by decide +kernel
theorem dX8_legal_37 : decode cX8_legal 37 = .ok (.invokevirtual 316, 3) := by decide +kernel
theorem dX8_legal_40 : decode cX8_legal 40 = .ok (.iconst (-1), 1) := by decide +kernel
theorem dX8_legal_41 : decode cX8_legal 41 = .ok (.if_icmp .eq 7, 3) := by decide +kernel
theorem dX8_legal_44 : decode cX8_legal 44 = .ok (.iconst 1, 1) := by decide +kernel
theorem dX8_legal_45 : decode cX8_legal 45 = .ok (.goto 4, 3) := by decide +kernel
theorem dX8_legal_48 : decode cX8_legal 48 = .ok (.iconst 0, 1) := by decide +kernel
theorem dX8_legal_49 : decode cX8_legal 49 = .ok (.ireturn, 1) := by decide +kernel
theorem dX8_nth_0 : decode cX8_nth 0 = .ok (.aload_n 0, 1) := by decide +kernel
theorem dX8_nth_1 : decode cX8_nth 1 = .ok (.iconst 0, 1) := by decide +kernel
theorem dX8_nth_2 : decode cX8_nth 2 = .ok (.putfield 91, 3) := by decide +kernel
theorem dX8_nth_5 : decode cX8_nth 5 = .ok (.iload_n 1, 1) := by decide +kernel
theorem dX8_nth_6 : decode cX8_nth 6 = .ok (.iconst 0, 1) := by decide +kernel
theorem dX8_nth_7 : decode cX8_nth 7 = .ok (.aload_n 0, 1) := by decide +kernel
theorem dX8_nth_8 : decode cX8_nth 8 = .ok (.aload_n 0, 1) := by decide +kernel
theorem dX8_nth_9 : decode cX8_nth 9 = .ok (.getfield 45, 3) := by decide +kernel
theorem dX8_nth_12 : decode cX8_nth 12 = .ok (.invokevirtual 197, 3) := by decide +kernel
theorem dX8_nth_15 : decode cX8_nth 15 = .ok (.iconst 1, 1) := by decide +kernel
theorem dX8_nth_16 : decode cX8_nth 16 = .ok (.isub, 1) := by decide +kernel
theorem dX8_nth_17 : decode cX8_nth 17 = .ok (.invokestatic 94, 3) := by decide +kernel
theorem dX8_nth_20 : decode cX8_nth 20 = .ok (.ifCond .eq 12, 3) := by decide +kernel
theorem dX8_nth_23 : decode cX8_nth 23 = .ok (.aload_n 0, 1) := by decide +kernel
theorem dX8_nth_24 : decode cX8_nth 24 = .ok (.getfield 45, 3) := by decide +kernel
theorem dX8_nth_27 : decode cX8_nth 27 = .ok (.iload_n 1, 1) := by decide +kernel
theorem dX8_nth_28 : decode cX8_nth 28 = .ok (.iaload, 1) := by decide +kernel
theorem dX8_nth_29 : decode cX8_nth 29 = .ok (.goto 8, 3) := by decide +kernel
theorem dX8_nth_32 : decode cX8_nth 32 = .ok (.aload_n 0, 1) := by decide +kernel
theorem dX8_nth_33 : decode cX8_nth 33 = .ok (.iconst 1, 1) := by decide +kernel
theorem dX8_nth_34 : decode cX8_nth 34 = .ok (.invokevirtual 280, 3) := by decide +kernel
theorem dX8_nth_37 : decode cX8_nth 37 = .ok (.ireturn, 1) := by decide +kernel
theorem dX8_move_0 : decode cX8_move 0 = .ok (.aload_n 0, 1) := by decide +kernel
theorem dX8_move_1 : decode cX8_move 1 = .ok (.iconst 0, 1) := by decide +kernel
theorem dX8_move_2 : decode cX8_move 2 = .ok (.putfield 91, 3) := by decide +kernel
theorem dX8_move_5 : decode cX8_move 5 = .ok (.iload_n 1, 1) := by decide +kernel
theorem dX8_move_6 : decode cX8_move 6 = .ok (.invokestatic 304, 3) := by decide +kernel
theorem dX8_move_9 : decode cX8_move 9 = .ok (.ifCond .eq 10, 3) := by decide +kernel
theorem dX8_move_12 : decode cX8_move 12 = .ok (.iload_n 2, 1) := by decide +kernel
theorem dX8_move_13 : decode cX8_move 13 = .ok (.invokestatic 304, 3) := by decide +kernel
theorem dX8_move_16 : decode cX8_move 16 = .ok (.ifCond .ne 9, 3) := by decide +kernel
theorem dX8_move_19 : decode cX8_move 19 = .ok (.aload_n 0, 1) := by decide +kernel
theorem dX8_move_20 : decode cX8_move 20 = .ok (.iconst 1, 1) := by decide +kernel
theorem dX8_move_21 : decode cX8_move 21 = .ok (.invokevirtual 280, 3) := by decide +kernel
theorem dX8_move_24 : decode cX8_move 24 = .ok (.ireturn, 1) := by decide +kernel
theorem dX8_move_25 : decode cX8_move 25 = .ok (.iload_n 3, 1) := by decide +kernel
theorem dX8_move_26 : decode cX8_move 26 = .ok (.iconst 2, 1) := by decide +kernel
theorem dX8_move_27 : decode cX8_move 27 = .ok (.iconst 5, 1) := by decide +kernel
theorem dX8_move_28 : decode cX8_move 28 = .ok (.invokestatic 94, 3) := by decide +kernel
theorem dX8_move_31 : decode cX8_move 31 = .ok (.ifCond .ne 9, 3) := by decide +kernel
theorem dX8_move_34 : decode cX8_move 34 = .ok (.aload_n 0, 1) := by decide +kernel
theorem dX8_move_35 : decode cX8_move 35 = .ok (.iconst 2, 1) := by decide +kernel
theorem dX8_move_36 : decode cX8_move 36 = .ok (.invokevirtual 280, 3) := by decide +kernel
theorem dX8_move_39 : decode cX8_move 39 = .ok (.ireturn, 1) := by decide +kernel
theorem dX8_move_40 : decode cX8_move 40 = .ok (.aload_n 0, 1) := by decide +kernel
theorem dX8_move_41 : decode cX8_move 41 = .ok (.bipush 91, 2) := by decide +kernel
theorem dX8_move_43 : decode cX8_move 43 = .ok (.iload_n 1, 1) := by decide +kernel
theorem dX8_move_44 : decode cX8_move 44 = .ok (.imul, 1) := by decide +kernel
theorem dX8_move_45 : decode cX8_move 45 = .ok (.iload_n 2, 1) := by decide +kernel
theorem dX8_move_46 : decode cX8_move 46 = .ok (.iadd, 1) := by decide +kernel
theorem dX8_move_47 : decode cX8_move 47 = .ok (.invokevirtual 316, 3) := by decide +kernel
theorem dX8_move_50 : decode cX8_move 50 = .ok (.iconst (-1), 1) := by decide +kernel
theorem dX8_move_51 : decode cX8_move 51 = .ok (.if_icmp .ne 9, 3) := by decide +kernel
theorem dX8_move_54 : decode cX8_move 54 = .ok (.aload_n 0, 1) := by decide +kernel
theorem dX8_move_55 : decode cX8_move 55 = .ok (.iconst 3, 1) := by decide +kernel
theorem dX8_move_56 : decode cX8_move 56 = .ok (.invokevirtual 280, 3) := by decide +kernel
theorem dX8_move_59 : decode cX8_move 59 = .ok (.ireturn, 1) := by decide +kernel
theorem dX8_move_60 : decode cX8_move 60 = .ok (.aload_n 0, 1) := by decide +kernel
theorem dX8_move_61 : decode cX8_move 61 = .ok (.iload_n 1, 1) := by decide +kernel
theorem dX8_move_62 : decode cX8_move 62 = .ok (.iload_n 2, 1) := by decide +kernel
theorem dX8_move_63 : decode cX8_move 63 = .ok (.iload_n 3, 1) := by decide +kernel
theorem dX8_move_64 : decode cX8_move 64 = .ok (.invokevirtual 175, 3) := by decide +kernel
theorem dX8_move_67 : decode cX8_move 67 = .ok (.ireturn, 1) := by decide +kernel
theorem dX8_back_0 : decode cX8_back 0 = .ok (.aload_n 0, 1) := by decide +kernel
theorem dX8_back_1 : decode cX8_back 1 = .ok (.iconst 0, 1) := by decide +kernel
theorem dX8_back_2 : decode cX8_back 2 = .ok (.putfield 91, 3) := by decide +kernel
theorem dX8_back_5 : decode cX8_back 5 = .ok (.aload_n 0, 1) := by decide +kernel
theorem dX8_back_6 : decode cX8_back 6 = .ok (.getfield 153, 3) := by decide +kernel
theorem dX8_back_9 : decode cX8_back 9 = .ok (.ifCond .ne 9, 3) := by decide +kernel
theorem dX8_back_12 : decode cX8_back 12 = .ok (.aload_n 0, 1) := by decide +kernel
theorem dX8_back_13 : decode cX8_back 13 = .ok (.iconst 1, 1) := by decide +kernel
theorem dX8_back_14 : decode cX8_back 14 = .ok (.invokevirtual 280, 3) := by decide +kernel
theorem dX8_back_17 : decode cX8_back 17 = .ok (.ireturn, 1) := by decide +kernel
theorem dX8_back_18 : decode cX8_back 18 = .ok (.aload_n 0, 1) := by decide +kernel
theorem dX8_back_19 : decode cX8_back 19 = .ok (.invokevirtual 179, 3) := by decide +kernel
theorem dX8_back_22 : decode cX8_back 22 = .ok (.aload_n 0, 1) := by decide +kernel
theorem dX8_back_23 : decode cX8_back 23 = .ok (.getfield 153, 3) := by decide +kernel
theorem dX8_back_26 : decode cX8_back 26 = .ok (.ireturn, 1) := by decide +kernel
theorem dX8_lines_0 : decode cX8_lines 0 = .ok (.aload_n 0, 1) := by decide +kernel
theorem dX8_lines_1 : decode cX8_lines 1 = .ok (.iconst 0, 1) := by decide +kernel
theorem dX8_lines_2 : decode cX8_lines 2 = .ok (.putfield 91, 3) := by decide +kernel
theorem dX8_lines_5 : decode cX8_lines 5 = .ok (.iload_n 1, 1) := by decide +kernel
theorem dX8_lines_6 : decode cX8_lines 6 = .ok (.iconst 1, 1) := by decide +kernel
theorem dX8_lines_7 : decode cX8_lines 7 = .ok (.iconst 2, 1) := by decide +kernel
theorem dX8_lines_8 : decode cX8_lines 8 = .ok (.invokestatic 94, 3) := by decide +kernel
theorem dX8_lines_11 : decode cX8_lines 11 = .ok (.ifCond .ne 9, 3) := by decide +kernel
theorem dX8_lines_14 : decode cX8_lines 14 = .ok (.aload_n 0, 1) := by decide +kernel
theorem dX8_lines_15 : decode cX8_lines 15 = .ok (.iconst 1, 1) := by decide +kernel
theorem dX8_lines_16 : decode cX8_lines 16 = .ok (.invokevirtual 280, 3) := by decide +kernel
theorem dX8_lines_19 : decode cX8_lines 19 = .ok (.ireturn, 1) := by decide +kernel
theorem dX8_lines_20 : decode cX8_lines 20 = .ok (.aload_n 0, 1) := by decide +kernel
theorem dX8_lines_21 : decode cX8_lines 21 = .ok (.aload_n 0, 1) := by decide +kernel
theorem dX8_lines_22 : decode cX8_lines 22 = .ok (.getfield 45, 3) := by decide +kernel
theorem dX8_lines_25 : decode cX8_lines 25 = .ok (.invokevirtual 197, 3) := by decide +kernel
theorem dX8_lines_28 : decode cX8_lines 28 = .ok (.istore_n 2, 1) := by decide +kernel
theorem dX8_lines_29 : decode cX8_lines 29 = .ok (.iconst 0, 1) := by decide +kernel
theorem dX8_lines_30 : decode cX8_lines 30 = .ok (.istore_n 3, 1) := by decide +kernel
theorem dX8_lines_31 : decode cX8_lines 31 = .ok (.iconst 0, 1) := by decide +kernel
theorem dX8_lines_32 : decode cX8_lines 32 = .ok (.istore 4, 2) := by decide +kernel
theorem dX8_lines_34 : decode cX8_lines 34 = .ok (.iload 4, 2) := by decide +kernel
theorem dX8_lines_36 : decode cX8_lines 36 = .ok (.iload_n 2, 1) := by decide +kernel
theorem dX8_lines_37 : decode cX8_lines 37 = .ok (.if_icmp .ge 55, 3) := by decide +kernel
theorem dX8_lines_40 : decode cX8_lines 40 = .ok (.iload_n 1, 1) := by decide +kernel
theorem dX8_lines_41 : decode cX8_lines 41 = .ok (.iconst 2, 1) := by decide +kernel
theorem dX8_lines_42 : decode cX8_lines 42 = .ok (.if_icmp .ne 50, 3) := by decide +kernel
theorem dX8_lines_45 : decode cX8_lines 45 = .ok (.aload_n 0, 1) := by decide +kernel
theorem dX8_lines_46 : decode cX8_lines 46 = .ok (.aload_n 0, 1) := by decide +kernel
theorem dX8_lines_47 : decode cX8_lines 47 = .ok (.getfield 45, 3) := by decide +kernel
theorem dX8_lines_50 : decode cX8_lines 50 = .ok (.iload 4, 2) := by decide +kernel
theorem dX8_lines_52 : decode cX8_lines 52 = .ok (.iaload, 1) := by decide +kernel
theorem dX8_lines_53 : decode cX8_lines 53 = .ok (.bipush 91, 2) := by decide +kernel
theorem dX8_lines_55 : decode cX8_lines 55 = .ok (.idiv, 1) := by decide +kernel
theorem dX8_lines_56 : decode cX8_lines 56 = .ok (.aload_n 0, 1) := by decide +kernel
theorem dX8_lines_57 : decode cX8_lines 57 = .ok (.getfield 45, 3) := by decide +kernel
theorem dX8_lines_60 : decode cX8_lines 60 = .ok (.iload 4, 2) := by decide +kernel
theorem dX8_lines_62 : decode cX8_lines 62 = .ok (.iaload, 1) := by decide +kernel
theorem dX8_lines_63 : decode cX8_lines 63 = .ok (.bipush 91, 2) := by decide +kernel
theorem dX8_lines_65 : decode cX8_lines 65 = .ok (.irem, 1) := by decide +kernel
theorem dX8_lines_66 : decode cX8_lines 66 = .ok (.iconst 2, 1) := by decide +kernel
theorem dX8_lines_67 : decode cX8_lines 67 = .ok (.invokevirtual 175, 3) := by decide +kernel
theorem dX8_lines_70 : decode cX8_lines 70 = .ok (.pop, 1) := by decide +kernel
theorem dX8_lines_71 : decode cX8_lines 71 = .ok (.iload_n 3, 1) := by decide +kernel
theorem dX8_lines_72 : decode cX8_lines 72 = .ok (.aload_n 0, 1) := by decide +kernel
theorem dX8_lines_73 : decode cX8_lines 73 = .ok (.aload_n 0, 1) := by decide +kernel
theorem dX8_lines_74 : decode cX8_lines 74 = .ok (.getfield 48, 3) := by decide +kernel
theorem dX8_lines_77 : decode cX8_lines 77 = .ok (.invokevirtual 197, 3) := by decide +kernel
theorem dX8_lines_80 : decode cX8_lines 80 = .ok (.iadd, 1) := by decide +kernel
theorem dX8_lines_81 : decode cX8_lines 81 = .ok (.istore_n 3, 1) := by decide +kernel
theorem dX8_lines_82 : decode cX8_lines 82 = .ok (.aload_n 0, 1) := by decide +kernel
theorem dX8_lines_83 : decode cX8_lines 83 = .ok (.invokevirtual 179, 3) := by decide +kernel
theorem dX8_lines_86 : decode cX8_lines 86 = .ok (.iinc 4 1, 3) := by decide +kernel
theorem dX8_lines_89 : decode cX8_lines 89 = .ok (.goto (-55), 3) := by decide +kernel
theorem dX8_lines_92 : decode cX8_lines 92 = .ok (.iload_n 1, 1) := by decide +kernel
theorem dX8_lines_93 : decode cX8_lines 93 = .ok (.iconst 1, 1) := by decide +kernel
theorem dX8_lines_94 : decode cX8_lines 94 = .ok (.if_icmp .ne 7, 3) := by decide +kernel
theorem dX8_lines_97 : decode cX8_lines 97 = .ok (.iload_n 2, 1) := by decide +kernel
theorem dX8_lines_98 : decode cX8_lines 98 = .ok (.goto 4, 3) := by decide +kernel
theorem dX8_lines_101 : decode cX8_lines 101 = .ok (.iload_n 3, 1) := by decide +kernel
theorem dX8_lines_102 : decode cX8_lines 102 = .ok (.ireturn, 1) := by decide +kernel
theorem dX8_mate_0 : decode cX8_mate 0 = .ok (.aload_n 0, 1) := by decide +kernel
theorem dX8_mate_1 : decode cX8_mate 1 = .ok (.iconst 0, 1) := by decide +kernel
theorem dX8_mate_2 : decode cX8_mate 2 = .ok (.putfield 91, 3) := by decide +kernel
theorem dX8_mate_5 : decode cX8_mate 5 = .ok (.aload_n 0, 1) := by decide +kernel
theorem dX8_mate_6 : decode cX8_mate 6 = .ok (.aload_n 0, 1) := by decide +kernel
theorem dX8_mate_7 : decode cX8_mate 7 = .ok (.getfield 45, 3) := by decide +kernel
theorem dX8_mate_10 : decode cX8_mate 10 = .ok (.invokevirtual 197, 3) := by decide +kernel
theorem dX8_mate_13 : decode cX8_mate 13 = .ok (.istore_n 1, 1) := by decide +kernel
theorem dX8_mate_14 : decode cX8_mate 14 = .ok (.iconst 0, 1) := by decide +kernel
theorem dX8_mate_15 : decode cX8_mate 15 = .ok (.istore_n 2, 1) := by decide +kernel
theorem dX8_mate_16 : decode cX8_mate 16 = .ok (.iload_n 2, 1) := by decide +kernel
theorem dX8_mate_17 : decode cX8_mate 17 = .ok (.iload_n 1, 1) := by decide +kernel
theorem dX8_mate_18 : decode cX8_mate 18 = .ok (.if_icmp .ge 54, 3) := by decide +kernel
theorem dX8_mate_21 : decode cX8_mate 21 = .ok (.aload_n 0, 1) := by decide +kernel
theorem dX8_mate_22 : decode cX8_mate 22 = .ok (.aload_n 0, 1) := by decide +kernel
theorem dX8_mate_23 : decode cX8_mate 23 = .ok (.getfield 45, 3) := by decide +kernel
theorem dX8_mate_26 : decode cX8_mate 26 = .ok (.iload_n 2, 1) := by decide +kernel
theorem dX8_mate_27 : decode cX8_mate 27 = .ok (.iaload, 1) := by decide +kernel
theorem dX8_mate_28 : decode cX8_mate 28 = .ok (.bipush 91, 2) := by decide +kernel
theorem dX8_mate_30 : decode cX8_mate 30 = .ok (.idiv, 1) := by decide +kernel
theorem dX8_mate_31 : decode cX8_mate 31 = .ok (.aload_n 0, 1) := by decide +kernel
theorem dX8_mate_32 : decode cX8_mate 32 = .ok (.getfield 45, 3) := by decide +kernel
theorem dX8_mate_35 : decode cX8_mate 35 = .ok (.iload_n 2, 1) := by decide +kernel
theorem dX8_mate_36 : decode cX8_mate 36 = .ok (.iaload, 1) := by decide +kernel
theorem dX8_mate_37 : decode cX8_mate 37 = .ok (.bipush 91, 2) := by decide +kernel
theorem dX8_mate_39 : decode cX8_mate 39 = .ok (.irem, 1) := by decide +kernel
theorem dX8_mate_40 : decode cX8_mate 40 = .ok (.iconst 2, 1) := by decide +kernel
theorem dX8_mate_41 : decode cX8_mate 41 = .ok (.invokevirtual 175, 3) := by decide +kernel
theorem dX8_mate_44 : decode cX8_mate 44 = .ok (.pop, 1) := by decide +kernel
theorem dX8_mate_45 : decode cX8_mate 45 = .ok (.aload_n 0, 1) := by decide +kernel
theorem dX8_mate_46 : decode cX8_mate 46 = .ok (.invokevirtual 289, 3) := by decide +kernel
theorem dX8_mate_49 : decode cX8_mate 49 = .ok (.istore_n 3, 1) := by decide +kernel
theorem dX8_mate_50 : decode cX8_mate 50 = .ok (.aload_n 0, 1) := by decide +kernel
theorem dX8_mate_51 : decode cX8_mate 51 = .ok (.invokevirtual 179, 3) := by decide +kernel
theorem dX8_mate_54 : decode cX8_mate 54 = .ok (.iload_n 3, 1) := by decide +kernel
theorem dX8_mate_55 : decode cX8_mate 55 = .ok (.iconst 2, 1) := by decide +kernel
theorem dX8_mate_56 : decode cX8_mate 56 = .ok (.if_icmp .ne 10, 3) := by decide +kernel
theorem dX8_mate_59 : decode cX8_mate 59 = .ok (.aload_n 0, 1) := by decide +kernel
theorem dX8_mate_60 : decode cX8_mate 60 = .ok (.getfield 45, 3) := by decide +kernel
theorem dX8_mate_63 : decode cX8_mate 63 = .ok (.iload_n 2, 1) := by decide +kernel
theorem dX8_mate_64 : decode cX8_mate 64 = .ok (.iaload, 1) := by decide +kernel
theorem dX8_mate_65 : decode cX8_mate 65 = .ok (.ireturn, 1) := by decide +kernel
theorem dX8_mate_66 : decode cX8_mate 66 = .ok (.iinc 2 1, 3) := by decide +kernel
theorem dX8_mate_69 : decode cX8_mate 69 = .ok (.goto (-53), 3) := by decide +kernel
theorem dX8_mate_72 : decode cX8_mate 72 = .ok (.iconst (-1), 1) := by decide +kernel
theorem dX8_mate_73 : decode cX8_mate 73 = .ok (.ireturn, 1) := by decide +kernel
theorem dX8_gainOf_0 : decode cX8_gainOf 0 = .ok (.iload_n 1, 1) := by decide +kernel
theorem dX8_gainOf_1 : decode cX8_gainOf 1 = .ok (.bipush 91, 2) := by decide +kernel
theorem dX8_gainOf_3 : decode cX8_gainOf 3 = .ok (.idiv, 1) := by decide +kernel
theorem dX8_gainOf_4 : decode cX8_gainOf 4 = .ok (.istore_n 2, 1) := by decide +kernel
theorem dX8_gainOf_5 : decode cX8_gainOf 5 = .ok (.iload_n 1, 1) := by decide +kernel
theorem dX8_gainOf_6 : decode cX8_gainOf 6 = .ok (.bipush 91, 2) := by decide +kernel
theorem dX8_gainOf_8 : decode cX8_gainOf 8 = .ok (.irem, 1) := by decide +kernel
theorem dX8_gainOf_9 : decode cX8_gainOf 9 = .ok (.istore_n 3, 1) := by decide +kernel
theorem dX8_gainOf_10 : decode cX8_gainOf 10 = .ok (.aload_n 0, 1) := by decide +kernel
theorem dX8_gainOf_11 : decode cX8_gainOf 11 = .ok (.iload_n 2, 1) := by decide +kernel
theorem dX8_gainOf_12 : decode cX8_gainOf 12 = .ok (.iload_n 3, 1) := by decide +kernel
theorem dX8_gainOf_13 : decode cX8_gainOf 13 = .ok (.invokevirtual 168, 3) := by decide +kernel
theorem dX8_gainOf_16 : decode cX8_gainOf 16 = .ok (.ifCond .eq 7, 3) := by decide +kernel
theorem dX8_gainOf_19 : decode cX8_gainOf 19 = .ok (.iconst 2, 1) := by decide +kernel
theorem dX8_gainOf_20 : decode cX8_gainOf 20 = .ok (.goto 12, 3) := by decide +kernel
theorem dX8_gainOf_23 : decode cX8_gainOf 23 = .ok (.aload_n 0, 1) := by decide +kernel
theorem dX8_gainOf_24 : decode cX8_gainOf 24 = .ok (.getfield 32, 3) := by decide +kernel
theorem dX8_gainOf_27 : decode cX8_gainOf 27 = .ok (.iload_n 2, 1) := by decide +kernel
theorem dX8_gainOf_28 : decode cX8_gainOf 28 = .ok (.iaload, 1) := by decide +kernel
theorem dX8_gainOf_29 : decode cX8_gainOf 29 = .ok (.invokestatic 136, 3) := by decide +kernel
theorem dX8_gainOf_32 : decode cX8_gainOf 32 = .ok (.istore 4, 2) := by decide +kernel
theorem dX8_gainOf_34 : decode cX8_gainOf 34 = .ok (.aload_n 0, 1) := by decide +kernel
theorem dX8_gainOf_35 : decode cX8_gainOf 35 = .ok (.iload_n 2, 1) := by decide +kernel
theorem dX8_gainOf_36 : decode cX8_gainOf 36 = .ok (.iload_n 3, 1) := by decide +kernel
theorem dX8_gainOf_37 : decode cX8_gainOf 37 = .ok (.iconst 2, 1) := by decide +kernel
theorem dX8_gainOf_38 : decode cX8_gainOf 38 = .ok (.invokevirtual 175, 3) := by decide +kernel
theorem dX8_gainOf_41 : decode cX8_gainOf 41 = .ok (.invokestatic 286, 3) := by decide +kernel
theorem dX8_gainOf_44 : decode cX8_gainOf 44 = .ok (.istore 5, 2) := by decide +kernel
theorem dX8_gainOf_46 : decode cX8_gainOf 46 = .ok (.aload_n 0, 1) := by decide +kernel
theorem dX8_gainOf_47 : decode cX8_gainOf 47 = .ok (.iload_n 3, 1) := by decide +kernel
theorem dX8_gainOf_48 : decode cX8_gainOf 48 = .ok (.aload_n 0, 1) := by decide +kernel
theorem dX8_gainOf_49 : decode cX8_gainOf 49 = .ok (.getfield 125, 3) := by decide +kernel
theorem dX8_gainOf_52 : decode cX8_gainOf 52 = .ok (.invokevirtual 122, 3) := by decide +kernel
theorem dX8_gainOf_55 : decode cX8_gainOf 55 = .ok (.ifCond .le 13, 3) := by decide +kernel
theorem dX8_gainOf_58 : decode cX8_gainOf 58 = .ok (.iload 5, 2) := by decide +kernel
theorem dX8_gainOf_60 : decode cX8_gainOf 60 = .ok (.iload 4, 2) := by decide +kernel
theorem dX8_gainOf_62 : decode cX8_gainOf 62 = .ok (.invokestatic 286, 3) := by decide +kernel
theorem dX8_gainOf_65 : decode cX8_gainOf 65 = .ok (.isub, 1) := by decide +kernel
theorem dX8_gainOf_66 : decode cX8_gainOf 66 = .ok (.istore 5, 2) := by decide +kernel
theorem dX8_gainOf_68 : decode cX8_gainOf 68 = .ok (.aload_n 0, 1) := by decide +kernel
theorem dX8_gainOf_69 : decode cX8_gainOf 69 = .ok (.invokevirtual 179, 3) := by decide +kernel
theorem dX8_gainOf_72 : decode cX8_gainOf 72 = .ok (.iload 5, 2) := by decide +kernel
theorem dX8_gainOf_74 : decode cX8_gainOf 74 = .ok (.ireturn, 1) := by decide +kernel
theorem dX8_greed_0 : decode cX8_greed 0 = .ok (.aload_n 0, 1) := by decide +kernel
theorem dX8_greed_1 : decode cX8_greed 1 = .ok (.iconst 0, 1) := by decide +kernel
theorem dX8_greed_2 : decode cX8_greed 2 = .ok (.putfield 91, 3) := by decide +kernel
theorem dX8_greed_5 : decode cX8_greed 5 = .ok (.aload_n 0, 1) := by decide +kernel
theorem dX8_greed_6 : decode cX8_greed 6 = .ok (.aload_n 0, 1) := by decide +kernel
theorem dX8_greed_7 : decode cX8_greed 7 = .ok (.getfield 45, 3) := by decide +kernel
theorem dX8_greed_10 : decode cX8_greed 10 = .ok (.invokevirtual 197, 3) := by decide +kernel
theorem dX8_greed_13 : decode cX8_greed 13 = .ok (.istore_n 1, 1) := by decide +kernel
theorem dX8_greed_14 : decode cX8_greed 14 = .ok (.iconst (-1), 1) := by decide +kernel
theorem dX8_greed_15 : decode cX8_greed 15 = .ok (.istore_n 2, 1) := by decide +kernel
theorem dX8_greed_16 : decode cX8_greed 16 = .ok (.iconst 0, 1) := by decide +kernel
theorem dX8_greed_17 : decode cX8_greed 17 = .ok (.istore_n 3, 1) := by decide +kernel
theorem dX8_greed_18 : decode cX8_greed 18 = .ok (.iconst 0, 1) := by decide +kernel
theorem dX8_greed_19 : decode cX8_greed 19 = .ok (.istore 4, 2) := by decide +kernel
theorem dX8_greed_21 : decode cX8_greed 21 = .ok (.iload 4, 2) := by decide +kernel
theorem dX8_greed_23 : decode cX8_greed 23 = .ok (.iload_n 1, 1) := by decide +kernel
theorem dX8_greed_24 : decode cX8_greed 24 = .ok (.if_icmp .ge 47, 3) := by decide +kernel
theorem dX8_greed_27 : decode cX8_greed 27 = .ok (.aload_n 0, 1) := by decide +kernel
theorem dX8_greed_28 : decode cX8_greed 28 = .ok (.aload_n 0, 1) := by decide +kernel
theorem dX8_greed_29 : decode cX8_greed 29 = .ok (.getfield 45, 3) := by decide +kernel
theorem dX8_greed_32 : decode cX8_greed 32 = .ok (.iload 4, 2) := by decide +kernel
theorem dX8_greed_34 : decode cX8_greed 34 = .ok (.iaload, 1) := by decide +kernel
theorem dX8_greed_35 : decode cX8_greed 35 = .ok (.invokevirtual 319, 3) := by decide +kernel
theorem dX8_greed_38 : decode cX8_greed 38 = .ok (.istore 5, 2) := by decide +kernel
theorem dX8_greed_40 : decode cX8_greed 40 = .ok (.iload_n 2, 1) := by decide +kernel
theorem dX8_greed_41 : decode cX8_greed 41 = .ok (.iconst (-1), 1) := by decide +kernel
theorem dX8_greed_42 : decode cX8_greed 42 = .ok (.if_icmp .eq 12, 3) := by decide +kernel
theorem dX8_greed_45 : decode cX8_greed 45 = .ok (.iload 5, 2) := by decide +kernel
theorem dX8_greed_47 : decode cX8_greed 47 = .ok (.iload_n 3, 1) := by decide +kernel
theorem dX8_greed_48 : decode cX8_greed 48 = .ok (.if_icmp .gt 6, 3) := by decide +kernel
theorem dX8_greed_51 : decode cX8_greed 51 = .ok (.goto 14, 3) := by decide +kernel
theorem dX8_greed_54 : decode cX8_greed 54 = .ok (.aload_n 0, 1) := by decide +kernel
theorem dX8_greed_55 : decode cX8_greed 55 = .ok (.getfield 45, 3) := by decide +kernel
theorem dX8_greed_58 : decode cX8_greed 58 = .ok (.iload 4, 2) := by decide +kernel
theorem dX8_greed_60 : decode cX8_greed 60 = .ok (.iaload, 1) := by decide +kernel
theorem dX8_greed_61 : decode cX8_greed 61 = .ok (.istore_n 2, 1) := by decide +kernel
theorem dX8_greed_62 : decode cX8_greed 62 = .ok (.iload 5, 2) := by decide +kernel
theorem dX8_greed_64 : decode cX8_greed 64 = .ok (.istore_n 3, 1) := by decide +kernel
theorem dX8_greed_65 : decode cX8_greed 65 = .ok (.iinc 4 1, 3) := by decide +kernel
theorem dX8_greed_68 : decode cX8_greed 68 = .ok (.goto (-47), 3) := by decide +kernel
theorem dX8_greed_71 : decode cX8_greed 71 = .ok (.iload_n 2, 1) := by decide +kernel
theorem dX8_greed_72 : decode cX8_greed 72 = .ok (.ireturn, 1) := by decide +kernel
theorem dX8_hanging_0 : decode cX8_hanging 0 = .ok (.aload_n 0, 1) := by decide +kernel
theorem dX8_hanging_1 : decode cX8_hanging 1 = .ok (.iconst 0, 1) := by decide +kernel
theorem dX8_hanging_2 : decode cX8_hanging 2 = .ok (.putfield 91, 3) := by decide +kernel
theorem dX8_hanging_5 : decode cX8_hanging 5 = .ok (.iload_n 1, 1) := by decide +kernel
theorem dX8_hanging_6 : decode cX8_hanging 6 = .ok (.iconst 0, 1) := by decide +kernel
theorem dX8_hanging_7 : decode cX8_hanging 7 = .ok (.iconst 1, 1) := by decide +kernel
theorem dX8_hanging_8 : decode cX8_hanging 8 = .ok (.invokestatic 94, 3) := by decide +kernel
theorem dX8_hanging_11 : decode cX8_hanging 11 = .ok (.ifCond .ne 9, 3) := by decide +kernel
theorem dX8_hanging_14 : decode cX8_hanging 14 = .ok (.aload_n 0, 1) := by decide +kernel
theorem dX8_hanging_15 : decode cX8_hanging 15 = .ok (.iconst 1, 1) := by decide +kernel
theorem dX8_hanging_16 : decode cX8_hanging 16 = .ok (.invokevirtual 280, 3) := by decide +kernel
theorem dX8_hanging_19 : decode cX8_hanging 19 = .ok (.ireturn, 1) := by decide +kernel
theorem dX8_hanging_20 : decode cX8_hanging 20 = .ok (.iconst (-1), 1) := by decide +kernel
theorem dX8_hanging_21 : decode cX8_hanging 21 = .ok (.istore_n 2, 1) := by decide +kernel
theorem dX8_hanging_22 : decode cX8_hanging 22 = .ok (.iconst 0, 1) := by decide +kernel
theorem dX8_hanging_23 : decode cX8_hanging 23 = .ok (.istore_n 3, 1) := by decide +kernel
theorem dX8_hanging_24 : decode cX8_hanging 24 = .ok (.iconst 0, 1) := by decide +kernel
theorem dX8_hanging_25 : decode cX8_hanging 25 = .ok (.istore 4, 2) := by decide +kernel
theorem dX8_hanging_27 : decode cX8_hanging 27 = .ok (.iload 4, 2) := by decide +kernel
theorem dX8_hanging_29 : decode cX8_hanging 29 = .ok (.bipush 91, 2) := by decide +kernel
theorem dX8_hanging_31 : decode cX8_hanging 31 = .ok (.if_icmp .ge 75, 3) := by decide +kernel
theorem dX8_hanging_34 : decode cX8_hanging 34 = .ok (.aload_n 0, 1) := by decide +kernel
theorem dX8_hanging_35 : decode cX8_hanging 35 = .ok (.getfield 32, 3) := by decide +kernel
theorem dX8_hanging_38 : decode cX8_hanging 38 = .ok (.iload 4, 2) := by decide +kernel
theorem dX8_hanging_40 : decode cX8_hanging 40 = .ok (.iaload, 1) := by decide +kernel
theorem dX8_hanging_41 : decode cX8_hanging 41 = .ok (.invokestatic 136, 3) := by decide +kernel
theorem dX8_hanging_44 : decode cX8_hanging 44 = .ok (.invokestatic 286, 3) := by decide +kernel
theorem dX8_hanging_47 : decode cX8_hanging 47 = .ok (.istore 5, 2) := by decide +kernel
theorem dX8_hanging_49 : decode cX8_hanging 49 = .ok (.aload_n 0, 1) := by decide +kernel
theorem dX8_hanging_50 : decode cX8_hanging 50 = .ok (.getfield 32, 3) := by decide +kernel
theorem dX8_hanging_53 : decode cX8_hanging 53 = .ok (.iload 4, 2) := by decide +kernel
theorem dX8_hanging_55 : decode cX8_hanging 55 = .ok (.iaload, 1) := by decide +kernel
theorem dX8_hanging_56 : decode cX8_hanging 56 = .ok (.invokestatic 139, 3) := by decide +kernel
theorem dX8_hanging_59 : decode cX8_hanging 59 = .ok (.iload_n 1, 1) := by decide +kernel
theorem dX8_hanging_60 : decode cX8_hanging 60 = .ok (.if_icmp .ne 40, 3) := by decide +kernel
theorem dX8_hanging_63 : decode cX8_hanging 63 = .ok (.iload 5, 2) := by decide +kernel
theorem dX8_hanging_65 : decode cX8_hanging 65 = .ok (.iload_n 3, 1) := by decide +kernel
theorem dX8_hanging_66 : decode cX8_hanging 66 = .ok (.if_icmp .le 34, 3) := by decide +kernel
theorem dX8_hanging_69 : decode cX8_hanging 69 = .ok (.aload_n 0, 1) := by decide +kernel
theorem dX8_hanging_70 : decode cX8_hanging 70 = .ok (.iload 4, 2) := by decide +kernel
theorem dX8_hanging_72 : decode cX8_hanging 72 = .ok (.iconst 1, 1) := by decide +kernel
theorem dX8_hanging_73 : decode cX8_hanging 73 = .ok (.iload_n 1, 1) := by decide +kernel
theorem dX8_hanging_74 : decode cX8_hanging 74 = .ok (.isub, 1) := by decide +kernel
theorem dX8_hanging_75 : decode cX8_hanging 75 = .ok (.invokevirtual 122, 3) := by decide +kernel
theorem dX8_hanging_78 : decode cX8_hanging 78 = .ok (.ifCond .eq 22, 3) := by decide +kernel
theorem dX8_hanging_81 : decode cX8_hanging 81 = .ok (.aload_n 0, 1) := by decide +kernel
theorem dX8_hanging_82 : decode cX8_hanging 82 = .ok (.iload 4, 2) := by decide +kernel
theorem dX8_hanging_84 : decode cX8_hanging 84 = .ok (.iload_n 1, 1) := by decide +kernel
theorem dX8_hanging_85 : decode cX8_hanging 85 = .ok (.invokevirtual 122, 3) := by decide +kernel
theorem dX8_hanging_88 : decode cX8_hanging 88 = .ok (.ifCond .le 6, 3) := by decide +kernel
theorem dX8_hanging_91 : decode cX8_hanging 91 = .ok (.goto 9, 3) := by decide +kernel
theorem dX8_hanging_94 : decode cX8_hanging 94 = .ok (.iload 4, 2) := by decide +kernel
theorem dX8_hanging_96 : decode cX8_hanging 96 = .ok (.istore_n 2, 1) := by decide +kernel
theorem dX8_hanging_97 : decode cX8_hanging 97 = .ok (.iload 5, 2) := by decide +kernel
theorem dX8_hanging_99 : decode cX8_hanging 99 = .ok (.istore_n 3, 1) := by decide +kernel
theorem dX8_hanging_100 : decode cX8_hanging 100 = .ok (.iinc 4 1, 3) := by decide +kernel
theorem dX8_hanging_103 : decode cX8_hanging 103 = .ok (.goto (-76), 3) := by decide +kernel
theorem dX8_hanging_106 : decode cX8_hanging 106 = .ok (.iload_n 2, 1) := by decide +kernel
theorem dX8_hanging_107 : decode cX8_hanging 107 = .ok (.ireturn, 1) := by decide +kernel
theorem dX8_mean_0 : decode cX8_mean 0 = .ok (.aload_n 0, 1) := by decide +kernel
theorem dX8_mean_1 : decode cX8_mean 1 = .ok (.iconst 0, 1) := by decide +kernel
theorem dX8_mean_2 : decode cX8_mean 2 = .ok (.putfield 91, 3) := by decide +kernel
theorem dX8_mean_5 : decode cX8_mean 5 = .ok (.aload_n 0, 1) := by decide +kernel
theorem dX8_mean_6 : decode cX8_mean 6 = .ok (.aload_n 0, 1) := by decide +kernel
theorem dX8_mean_7 : decode cX8_mean 7 = .ok (.getfield 125, 3) := by decide +kernel
theorem dX8_mean_10 : decode cX8_mean 10 = .ok (.invokevirtual 253, 3) := by decide +kernel
theorem dX8_mean_13 : decode cX8_mean 13 = .ok (.istore_n 1, 1) := by decide +kernel
theorem dX8_mean_14 : decode cX8_mean 14 = .ok (.iload_n 1, 1) := by decide +kernel
theorem dX8_mean_15 : decode cX8_mean 15 = .ok (.ifCond .ne 7, 3) := by decide +kernel
theorem dX8_mean_18 : decode cX8_mean 18 = .ok (.dconst 0, 1) := by decide +kernel
theorem dX8_mean_19 : decode cX8_mean 19 = .ok (.goto 15, 3) := by decide +kernel
theorem dX8_mean_22 : decode cX8_mean 22 = .ok (.aload_n 0, 1) := by decide +kernel
theorem dX8_mean_23 : decode cX8_mean 23 = .ok (.aload_n 0, 1) := by decide +kernel
theorem dX8_mean_24 : decode cX8_mean 24 = .ok (.getfield 45, 3) := by decide +kernel
theorem dX8_mean_27 : decode cX8_mean 27 = .ok (.invokevirtual 197, 3) := by decide +kernel
theorem dX8_mean_30 : decode cX8_mean 30 = .ok (.i2d, 1) := by decide +kernel
theorem dX8_mean_31 : decode cX8_mean 31 = .ok (.iload_n 1, 1) := by decide +kernel
theorem dX8_mean_32 : decode cX8_mean 32 = .ok (.i2d, 1) := by decide +kernel
theorem dX8_mean_33 : decode cX8_mean 33 = .ok (.ddiv, 1) := by decide +kernel
theorem dX8_mean_34 : decode cX8_mean 34 = .ok (.dreturn, 1) := by decide +kernel
theorem dX8_digest_0 : decode cX8_digest 0 = .ok (.aload_n 0, 1) := by decide +kernel
theorem dX8_digest_1 : decode cX8_digest 1 = .ok (.iconst 0, 1) := by decide +kernel
theorem dX8_digest_2 : decode cX8_digest 2 = .ok (.putfield 91, 3) := by decide +kernel
theorem dX8_digest_5 : decode cX8_digest 5 = .ok (.ldc2_w 322, 3) := by decide +kernel
theorem dX8_digest_8 : decode cX8_digest 8 = .ok (.lstore_n 1, 1) := by decide +kernel
theorem dX8_digest_9 : decode cX8_digest 9 = .ok (.iconst 0, 1) := by decide +kernel
theorem dX8_digest_10 : decode cX8_digest 10 = .ok (.istore_n 3, 1) := by decide +kernel
theorem dX8_digest_11 : decode cX8_digest 11 = .ok (.iload_n 3, 1) := by decide +kernel
theorem dX8_digest_12 : decode cX8_digest 12 = .ok (.bipush 10, 2) := by decide +kernel
theorem dX8_digest_14 : decode cX8_digest 14 = .ok (.if_icmp .gt 22, 3) := by decide +kernel
theorem dX8_digest_17 : decode cX8_digest 17 = .ok (.lload_n 1, 1) := by decide +kernel
theorem dX8_digest_18 : decode cX8_digest 18 = .ok (.ldc2_w 324, 3) := by decide +kernel
theorem dX8_digest_21 : decode cX8_digest 21 = .ok (.lmul, 1) := by decide +kernel
theorem dX8_digest_22 : decode cX8_digest 22 = .ok (.aload_n 0, 1) := by decide +kernel
theorem dX8_digest_23 : decode cX8_digest 23 = .ok (.iload_n 3, 1) := by decide +kernel
theorem dX8_digest_24 : decode cX8_digest 24 = .ok (.invokevirtual 298, 3) := by decide +kernel
theorem dX8_digest_27 : decode cX8_digest 27 = .ok (.i2l, 1) := by decide +kernel
theorem dX8_digest_28 : decode cX8_digest 28 = .ok (.ladd, 1) := by decide +kernel
theorem dX8_digest_29 : decode cX8_digest 29 = .ok (.lstore_n 1, 1) := by decide +kernel
theorem dX8_digest_30 : decode cX8_digest 30 = .ok (.iinc 3 1, 3) := by decide +kernel
theorem dX8_digest_33 : decode cX8_digest 33 = .ok (.goto (-22), 3) := by decide +kernel
theorem dX8_digest_36 : decode cX8_digest 36 = .ok (.iconst 0, 1) := by decide +kernel
theorem dX8_digest_37 : decode cX8_digest 37 = .ok (.istore_n 3, 1) := by decide +kernel
theorem dX8_digest_38 : decode cX8_digest 38 = .ok (.iload_n 3, 1) := by decide +kernel
theorem dX8_digest_39 : decode cX8_digest 39 = .ok (.bipush 91, 2) := by decide +kernel
theorem dX8_digest_41 : decode cX8_digest 41 = .ok (.if_icmp .ge 67, 3) := by decide +kernel
theorem dX8_digest_44 : decode cX8_digest 44 = .ok (.lload_n 1, 1) := by decide +kernel
theorem dX8_digest_45 : decode cX8_digest 45 = .ok (.ldc2_w 324, 3) := by decide +kernel
theorem dX8_digest_48 : decode cX8_digest 48 = .ok (.lmul, 1) := by decide +kernel
theorem dX8_digest_49 : decode cX8_digest 49 = .ok (.aload_n 0, 1) := by decide +kernel
theorem dX8_digest_50 : decode cX8_digest 50 = .ok (.getfield 32, 3) := by decide +kernel
theorem dX8_digest_53 : decode cX8_digest 53 = .ok (.iload_n 3, 1) := by decide +kernel
theorem dX8_digest_54 : decode cX8_digest 54 = .ok (.iaload, 1) := by decide +kernel
theorem dX8_digest_55 : decode cX8_digest 55 = .ok (.invokestatic 136, 3) := by decide +kernel
theorem dX8_digest_58 : decode cX8_digest 58 = .ok (.i2l, 1) := by decide +kernel
theorem dX8_digest_59 : decode cX8_digest 59 = .ok (.ladd, 1) := by decide +kernel
theorem dX8_digest_60 : decode cX8_digest 60 = .ok (.ldc2_w 324, 3) := by decide +kernel
theorem dX8_digest_63 : decode cX8_digest 63 = .ok (.lmul, 1) := by decide +kernel
theorem dX8_digest_64 : decode cX8_digest 64 = .ok (.aload_n 0, 1) := by decide +kernel
theorem dX8_digest_65 : decode cX8_digest 65 = .ok (.getfield 32, 3) := by decide +kernel
theorem dX8_digest_68 : decode cX8_digest 68 = .ok (.iload_n 3, 1) := by decide +kernel
theorem dX8_digest_69 : decode cX8_digest 69 = .ok (.iaload, 1) := by decide +kernel
theorem dX8_digest_70 : decode cX8_digest 70 = .ok (.invokestatic 139, 3) := by decide +kernel
theorem dX8_digest_73 : decode cX8_digest 73 = .ok (.i2l, 1) := by decide +kernel
theorem dX8_digest_74 : decode cX8_digest 74 = .ok (.ladd, 1) := by decide +kernel
theorem dX8_digest_75 : decode cX8_digest 75 = .ok (.lstore_n 1, 1) := by decide +kernel
theorem dX8_digest_76 : decode cX8_digest 76 = .ok (.lload_n 1, 1) := by decide +kernel
theorem dX8_digest_77 : decode cX8_digest 77 = .ok (.ldc2_w 324, 3) := by decide +kernel
theorem dX8_digest_80 : decode cX8_digest 80 = .ok (.lmul, 1) := by decide +kernel
theorem dX8_digest_81 : decode cX8_digest 81 = .ok (.aload_n 0, 1) := by decide +kernel
theorem dX8_digest_82 : decode cX8_digest 82 = .ok (.iload_n 3, 1) := by decide +kernel
theorem dX8_digest_83 : decode cX8_digest 83 = .ok (.iconst 0, 1) := by decide +kernel
theorem dX8_digest_84 : decode cX8_digest 84 = .ok (.invokevirtual 122, 3) := by decide +kernel
theorem dX8_digest_87 : decode cX8_digest 87 = .ok (.i2l, 1) := by decide +kernel
theorem dX8_digest_88 : decode cX8_digest 88 = .ok (.ladd, 1) := by decide +kernel
theorem dX8_digest_89 : decode cX8_digest 89 = .ok (.ldc2_w 324, 3) := by decide +kernel
theorem dX8_digest_92 : decode cX8_digest 92 = .ok (.lmul, 1) := by decide +kernel
theorem dX8_digest_93 : decode cX8_digest 93 = .ok (.aload_n 0, 1) := by decide +kernel
theorem dX8_digest_94 : decode cX8_digest 94 = .ok (.iload_n 3, 1) := by decide +kernel
theorem dX8_digest_95 : decode cX8_digest 95 = .ok (.iconst 1, 1) := by decide +kernel
theorem dX8_digest_96 : decode cX8_digest 96 = .ok (.invokevirtual 122, 3) := by decide +kernel
theorem dX8_digest_99 : decode cX8_digest 99 = .ok (.i2l, 1) := by decide +kernel
theorem dX8_digest_100 : decode cX8_digest 100 = .ok (.ladd, 1) := by decide +kernel
theorem dX8_digest_101 : decode cX8_digest 101 = .ok (.lstore_n 1, 1) := by decide +kernel
theorem dX8_digest_102 : decode cX8_digest 102 = .ok (.iinc 3 1, 3) := by decide +kernel
theorem dX8_digest_105 : decode cX8_digest 105 = .ok (.goto (-67), 3) := by decide +kernel
theorem dX8_digest_108 : decode cX8_digest 108 = .ok (.aload_n 0, 1) := by decide +kernel
theorem dX8_digest_109 : decode cX8_digest 109 = .ok (.aload_n 0, 1) := by decide +kernel
theorem dX8_digest_110 : decode cX8_digest 110 = .ok (.getfield 45, 3) := by decide +kernel
theorem dX8_digest_113 : decode cX8_digest 113 = .ok (.invokevirtual 197, 3) := by decide +kernel
theorem dX8_digest_116 : decode cX8_digest 116 = .ok (.istore_n 3, 1) := by decide +kernel
theorem dX8_digest_117 : decode cX8_digest 117 = .ok (.iconst 0, 1) := by decide +kernel
theorem dX8_digest_118 : decode cX8_digest 118 = .ok (.istore 4, 2) := by decide +kernel
theorem dX8_digest_120 : decode cX8_digest 120 = .ok (.iload 4, 2) := by decide +kernel
theorem dX8_digest_122 : decode cX8_digest 122 = .ok (.iload_n 3, 1) := by decide +kernel
theorem dX8_digest_123 : decode cX8_digest 123 = .ok (.if_icmp .ge 24, 3) := by decide +kernel
theorem dX8_digest_126 : decode cX8_digest 126 = .ok (.lload_n 1, 1) := by decide +kernel
theorem dX8_digest_127 : decode cX8_digest 127 = .ok (.ldc2_w 324, 3) := by decide +kernel
theorem dX8_digest_130 : decode cX8_digest 130 = .ok (.lmul, 1) := by decide +kernel
theorem dX8_digest_131 : decode cX8_digest 131 = .ok (.aload_n 0, 1) := by decide +kernel
theorem dX8_digest_132 : decode cX8_digest 132 = .ok (.getfield 45, 3) := by decide +kernel
theorem dX8_digest_135 : decode cX8_digest 135 = .ok (.iload 4, 2) := by decide +kernel
theorem dX8_digest_137 : decode cX8_digest 137 = .ok (.iaload, 1) := by decide +kernel
theorem dX8_digest_138 : decode cX8_digest 138 = .ok (.i2l, 1) := by decide +kernel
theorem dX8_digest_139 : decode cX8_digest 139 = .ok (.ladd, 1) := by decide +kernel
theorem dX8_digest_140 : decode cX8_digest 140 = .ok (.lstore_n 1, 1) := by decide +kernel
theorem dX8_digest_141 : decode cX8_digest 141 = .ok (.iinc 4 1, 3) := by decide +kernel
theorem dX8_digest_144 : decode cX8_digest 144 = .ok (.goto (-24), 3) := by decide +kernel
theorem dX8_digest_147 : decode cX8_digest 147 = .ok (.lload_n 1, 1) := by decide +kernel
theorem dX8_digest_148 : decode cX8_digest 148 = .ok (.lreturn, 1) := by decide +kernel
theorem dJ9_abs_0f7a4_0 : decode cJ9_abs_0f7a4 0 = .ok (.iload_n 0, 1) := by decide +kernel
theorem dJ9_abs_0f7a4_1 : decode cJ9_abs_0f7a4 1 = .ok (.ifCond .ge 8, 3) := by decide +kernel
theorem dJ9_abs_0f7a4_4 : decode cJ9_abs_0f7a4 4 = .ok (.iload_n 0, 1) := by decide +kernel
theorem dJ9_abs_0f7a4_5 : decode cJ9_abs_0f7a4 5 = .ok (.ineg, 1) := by decide +kernel
theorem dJ9_abs_0f7a4_6 : decode cJ9_abs_0f7a4 6 = .ok (.goto 4, 3) := by decide +kernel
theorem dJ9_abs_0f7a4_9 : decode cJ9_abs_0f7a4 9 = .ok (.iload_n 0, 1) := by decide +kernel
theorem dJ9_abs_0f7a4_10 : decode cJ9_abs_0f7a4 10 = .ok (.ireturn, 1) := by decide +kernel
theorem dJ9_max_7cf53_0 : decode cJ9_max_7cf53 0 = .ok (.iload_n 0, 1) := by decide +kernel
theorem dJ9_max_7cf53_1 : decode cJ9_max_7cf53 1 = .ok (.iload_n 1, 1) := by decide +kernel
theorem dJ9_max_7cf53_2 : decode cJ9_max_7cf53 2 = .ok (.if_icmp .lt 7, 3) := by decide +kernel
theorem dJ9_max_7cf53_5 : decode cJ9_max_7cf53 5 = .ok (.iload_n 0, 1) := by decide +kernel
theorem dJ9_max_7cf53_6 : decode cJ9_max_7cf53 6 = .ok (.goto 4, 3) := by decide +kernel
theorem dJ9_max_7cf53_9 : decode cJ9_max_7cf53 9 = .ok (.iload_n 1, 1) := by decide +kernel
theorem dJ9_max_7cf53_10 : decode cJ9_max_7cf53 10 = .ok (.ireturn, 1) := by decide +kernel
theorem dJ9_min_7cf53_0 : decode cJ9_min_7cf53 0 = .ok (.iload_n 0, 1) := by decide +kernel
theorem dJ9_min_7cf53_1 : decode cJ9_min_7cf53 1 = .ok (.iload_n 1, 1) := by decide +kernel
theorem dJ9_min_7cf53_2 : decode cJ9_min_7cf53 2 = .ok (.if_icmp .gt 7, 3) := by decide +kernel
theorem dJ9_min_7cf53_5 : decode cJ9_min_7cf53 5 = .ok (.iload_n 0, 1) := by decide +kernel
theorem dJ9_min_7cf53_6 : decode cJ9_min_7cf53 6 = .ok (.goto 4, 3) := by decide +kernel
theorem dJ9_min_7cf53_9 : decode cJ9_min_7cf53 9 = .ok (.iload_n 1, 1) := by decide +kernel
theorem dJ9_min_7cf53_10 : decode cJ9_min_7cf53 10 = .ok (.ireturn, 1) := by decide +kernel
theorem dJ0_length_8abf5_0 : decode cJ0_length_8abf5 0 = .ok (.aload_n 0, 1) := by decide +kernel
theorem dJ0_length_8abf5_1 : decode cJ0_length_8abf5 1 = .ok (.getfield 9, 3) := by decide +kernel
theorem dJ0_length_8abf5_4 : decode cJ0_length_8abf5 4 = .ok (.arraylength, 1) := by decide +kernel
theorem dJ0_length_8abf5_5 : decode cJ0_length_8abf5 5 = .ok (.aload_n 0, 1) := by decide +kernel
theorem dJ0_length_8abf5_6 : decode cJ0_length_8abf5 6 = .ok (.invokevirtual 335, 3) := by decide +kernel
theorem dJ0_length_8abf5_9 : decode cJ0_length_8abf5 9 = .ok (.ishr, 1) := by decide +kernel
theorem dJ0_length_8abf5_10 : decode cJ0_length_8abf5 10 = .ok (.ireturn, 1) := by decide +kernel
theorem dJ0_charAt_5068e_0 : decode cJ0_charAt_5068e 0 = .ok (.aload_n 0, 1) := by decide +kernel
theorem dJ0_charAt_5068e_1 : decode cJ0_charAt_5068e 1 = .ok (.invokevirtual 492, 3) := by decide +kernel
theorem dJ0_charAt_5068e_4 : decode cJ0_charAt_5068e 4 = .ok (.ifCond .eq 12, 3) := by decide +kernel
theorem dJ0_charAt_5068e_7 : decode cJ0_charAt_5068e 7 = .ok (.aload_n 0, 1) := by decide +kernel
theorem dJ0_charAt_5068e_8 : decode cJ0_charAt_5068e 8 = .ok (.getfield 9, 3) := by decide +kernel
theorem dJ0_charAt_5068e_11 : decode cJ0_charAt_5068e 11 = .ok (.iload_n 1, 1) := by decide +kernel
theorem dJ0_charAt_5068e_12 : decode cJ0_charAt_5068e 12 = .ok (.invokestatic 495, 3) := by decide +kernel
theorem dJ0_charAt_5068e_15 : decode cJ0_charAt_5068e 15 = .ok (.ireturn, 1) := by decide +kernel
theorem dJ0_charAt_5068e_16 : decode cJ0_charAt_5068e 16 = .ok (.aload_n 0, 1) := by decide +kernel
theorem dJ0_charAt_5068e_17 : decode cJ0_charAt_5068e 17 = .ok (.getfield 9, 3) := by decide +kernel
theorem dJ0_charAt_5068e_20 : decode cJ0_charAt_5068e 20 = .ok (.iload_n 1, 1) := by decide +kernel
theorem dJ0_charAt_5068e_21 : decode cJ0_charAt_5068e 21 = .ok (.invokestatic 498, 3) := by decide +kernel
theorem dJ0_charAt_5068e_24 : decode cJ0_charAt_5068e 24 = .ok (.ireturn, 1) := by decide +kernel
theorem dJ0_coder_7d493_0 : decode cJ0_coder_7d493 0 = .ok (.getstatic 38, 3) := by decide +kernel
theorem dJ0_coder_7d493_3 : decode cJ0_coder_7d493 3 = .ok (.ifCond .eq 10, 3) := by decide +kernel
theorem dJ0_coder_7d493_6 : decode cJ0_coder_7d493 6 = .ok (.aload_n 0, 1) := by decide +kernel
theorem dJ0_coder_7d493_7 : decode cJ0_coder_7d493 7 = .ok (.getfield 15, 3) := by decide +kernel
theorem dJ0_coder_7d493_10 : decode cJ0_coder_7d493 10 = .ok (.goto 4, 3) := by decide +kernel
theorem dJ0_coder_7d493_13 : decode cJ0_coder_7d493 13 = .ok (.iconst 1, 1) := by decide +kernel
theorem dJ0_coder_7d493_14 : decode cJ0_coder_7d493 14 = .ok (.ireturn, 1) := by decide +kernel
theorem dJ0_isLatin1_aae02_0 : decode cJ0_isLatin1_aae02 0 = .ok (.getstatic 38, 3) := by decide +kernel
theorem dJ0_isLatin1_aae02_3 : decode cJ0_isLatin1_aae02 3 = .ok (.ifCond .eq 14, 3) := by decide +kernel
theorem dJ0_isLatin1_aae02_6 : decode cJ0_isLatin1_aae02 6 = .ok (.aload_n 0, 1) := by decide +kernel
theorem dJ0_isLatin1_aae02_7 : decode cJ0_isLatin1_aae02 7 = .ok (.getfield 15, 3) := by decide +kernel
theorem dJ0_isLatin1_aae02_10 : decode cJ0_isLatin1_aae02 10 = .ok (.ifCond .ne 7, 3) := by decide +kernel
theorem dJ0_isLatin1_aae02_13 : decode cJ0_isLatin1_aae02 13 = .ok (.iconst 1, 1) := by decide +kernel
theorem dJ0_isLatin1_aae02_14 : decode cJ0_isLatin1_aae02 14 = .ok (.goto 4, 3) := by decide +kernel
theorem dJ0_isLatin1_aae02_17 : decode cJ0_isLatin1_aae02 17 = .ok (.iconst 0, 1) := by decide +kernel
theorem dJ0_isLatin1_aae02_18 : decode cJ0_isLatin1_aae02 18 = .ok (.ireturn, 1) := by decide +kernel
theorem dJ0_checkIndex_df160_0 : decode cJ0_checkIndex_df160 0 = .ok (.iload_n 0, 1) := by decide +kernel
theorem dJ0_checkIndex_df160_1 : decode cJ0_checkIndex_df160 1 = .ok (.iload_n 1, 1) := by decide +kernel
theorem dJ0_checkIndex_df160_2 : decode cJ0_checkIndex_df160 2 = .ok (.getstatic 1053, 3) := by decide +kernel
theorem dJ0_checkIndex_df160_5 : decode cJ0_checkIndex_df160 5 = .ok (.invokestatic 1059, 3) := by decide +kernel
theorem dJ0_checkIndex_df160_8 : decode cJ0_checkIndex_df160 8 = .ok (.pop, 1) := by decide +kernel
theorem dJ0_checkIndex_df160_9 : decode cJ0_checkIndex_df160 9 = .ok (.return_, 1) := by decide +kernel
theorem dJ1_charAt_3b067_0 : decode cJ1_charAt_3b067 0 = .ok (.iload_n 1, 1) := by decide +kernel
theorem dJ1_charAt_3b067_1 : decode cJ1_charAt_3b067 1 = .ok (.aload_n 0, 1) := by decide +kernel
theorem dJ1_charAt_3b067_2 : decode cJ1_charAt_3b067 2 = .ok (.arraylength, 1) := by decide +kernel
theorem dJ1_charAt_3b067_3 : decode cJ1_charAt_3b067 3 = .ok (.invokestatic 9, 3) := by decide +kernel
theorem dJ1_charAt_3b067_6 : decode cJ1_charAt_3b067 6 = .ok (.aload_n 0, 1) := by decide +kernel
theorem dJ1_charAt_3b067_7 : decode cJ1_charAt_3b067 7 = .ok (.iload_n 1, 1) := by decide +kernel
theorem dJ1_charAt_3b067_8 : decode cJ1_charAt_3b067 8 = .ok (.baload, 1) := by decide +kernel
theorem dJ1_charAt_3b067_9 : decode cJ1_charAt_3b067 9 = .ok (.sipush 255, 3) := by decide +kernel
theorem dJ1_charAt_3b067_12 : decode cJ1_charAt_3b067 12 = .ok (.iand, 1) := by decide +kernel
theorem dJ1_charAt_3b067_13 : decode cJ1_charAt_3b067 13 = .ok (.i2c, 1) := by decide +kernel
theorem dJ1_charAt_3b067_14 : decode cJ1_charAt_3b067 14 = .ok (.ireturn, 1) := by decide +kernel
theorem dJ2_getChar_3b067_0 : decode cJ2_getChar_3b067 0 = .ok (.getstatic 44, 3) := by decide +kernel
theorem dJ2_getChar_3b067_3 : decode cJ2_getChar_3b067 3 = .ok (.ifCond .ne 25, 3) := by decide +kernel
theorem dJ2_getChar_3b067_6 : decode cJ2_getChar_3b067 6 = .ok (.iload_n 1, 1) := by decide +kernel
theorem dJ2_getChar_3b067_7 : decode cJ2_getChar_3b067 7 = .ok (.ifCond .lt 11, 3) := by decide +kernel
theorem dJ2_getChar_3b067_10 : decode cJ2_getChar_3b067 10 = .ok (.iload_n 1, 1) := by decide +kernel
theorem dJ2_getChar_3b067_11 : decode cJ2_getChar_3b067 11 = .ok (.aload_n 0, 1) := by decide +kernel
theorem dJ2_getChar_3b067_12 : decode cJ2_getChar_3b067 12 = .ok (.invokestatic 48, 3) := by decide +kernel
theorem dJ2_getChar_3b067_15 : decode cJ2_getChar_3b067 15 = .ok (.if_icmp .lt 13, 3) := by decide +kernel
theorem dJ2_getChar_3b067_18 : decode cJ2_getChar_3b067 18 = .ok (.new 52, 3) := by decide +kernel
theorem dJ2_getChar_3b067_21 : decode cJ2_getChar_3b067 21 = .ok (.dup, 1) := by decide +kernel
theorem dJ2_getChar_3b067_22 : decode cJ2_getChar_3b067 22 = .ok (.ldc 54, 2) := by decide +kernel
theorem dJ2_getChar_3b067_24 : decode cJ2_getChar_3b067 24 = .ok (.invokespecial 56, 3) := by decide +kernel
theorem dJ2_getChar_3b067_27 : decode cJ2_getChar_3b067 27 = .ok (.athrow, 1) := by decide +kernel
theorem dJ2_getChar_3b067_28 : decode cJ2_getChar_3b067 28 = .ok (.iload_n 1, 1) := by decide +kernel
theorem dJ2_getChar_3b067_29 : decode cJ2_getChar_3b067 29 = .ok (.iconst 1, 1) := by decide +kernel
theorem dJ2_getChar_3b067_30 : decode cJ2_getChar_3b067 30 = .ok (.ishl, 1) := by decide +kernel
theorem dJ2_getChar_3b067_31 : decode cJ2_getChar_3b067 31 = .ok (.istore_n 1, 1) := by decide +kernel
theorem dJ2_getChar_3b067_32 : decode cJ2_getChar_3b067 32 = .ok (.aload_n 0, 1) := by decide +kernel
theorem dJ2_getChar_3b067_33 : decode cJ2_getChar_3b067 33 = .ok (.iload_n 1, 1) := by decide +kernel
theorem dJ2_getChar_3b067_34 : decode cJ2_getChar_3b067 34 = .ok (.iinc 1 1, 3) := by decide +kernel
theorem dJ2_getChar_3b067_37 : decode cJ2_getChar_3b067 37 = .ok (.baload, 1) := by decide +kernel
theorem dJ2_getChar_3b067_38 : decode cJ2_getChar_3b067 38 = .ok (.sipush 255, 3) := by decide +kernel
theorem dJ2_getChar_3b067_41 : decode cJ2_getChar_3b067 41 = .ok (.iand, 1) := by decide +kernel
theorem dJ2_getChar_3b067_42 : decode cJ2_getChar_3b067 42 = .ok (.getstatic 59, 3) := by decide +kernel
theorem dJ2_getChar_3b067_45 : decode cJ2_getChar_3b067 45 = .ok (.ishl, 1) := by decide +kernel
theorem dJ2_getChar_3b067_46 : decode cJ2_getChar_3b067 46 = .ok (.aload_n 0, 1) := by decide +kernel
theorem dJ2_getChar_3b067_47 : decode cJ2_getChar_3b067 47 = .ok (.iload_n 1, 1) := by decide +kernel
theorem dJ2_getChar_3b067_48 : decode cJ2_getChar_3b067 48 = .ok (.baload, 1) := by decide +kernel
theorem dJ2_getChar_3b067_49 : decode cJ2_getChar_3b067 49 = .ok (.sipush 255, 3) := by decide +kernel
theorem dJ2_getChar_3b067_52 : decode cJ2_getChar_3b067 52 = .ok (.iand, 1) := by decide +kernel
theorem dJ2_getChar_3b067_53 : decode cJ2_getChar_3b067 53 = .ok (.getstatic 63, 3) := by decide +kernel
theorem dJ2_getChar_3b067_56 : decode cJ2_getChar_3b067 56 = .ok (.ishl, 1) := by decide +kernel
theorem dJ2_getChar_3b067_57 : decode cJ2_getChar_3b067 57 = .ok (.ior, 1) := by decide +kernel
theorem dJ2_getChar_3b067_58 : decode cJ2_getChar_3b067 58 = .ok (.i2c, 1) := by decide +kernel
theorem dJ2_getChar_3b067_59 : decode cJ2_getChar_3b067 59 = .ok (.ireturn, 1) := by decide +kernel
theorem dJ2_length_9d52b_0 : decode cJ2_length_9d52b 0 = .ok (.aload_n 0, 1) := by decide +kernel
theorem dJ2_length_9d52b_1 : decode cJ2_length_9d52b 1 = .ok (.arraylength, 1) := by decide +kernel
theorem dJ2_length_9d52b_2 : decode cJ2_length_9d52b 2 = .ok (.iconst 1, 1) := by decide +kernel
theorem dJ2_length_9d52b_3 : decode cJ2_length_9d52b 3 = .ok (.ishr, 1) := by decide +kernel
theorem dJ2_length_9d52b_4 : decode cJ2_length_9d52b 4 = .ok (.ireturn, 1) := by decide +kernel
theorem dJ2_charAt_3b067_0 : decode cJ2_charAt_3b067 0 = .ok (.iload_n 1, 1) := by decide +kernel
theorem dJ2_charAt_3b067_1 : decode cJ2_charAt_3b067 1 = .ok (.aload_n 0, 1) := by decide +kernel
theorem dJ2_charAt_3b067_2 : decode cJ2_charAt_3b067 2 = .ok (.invokestatic 67, 3) := by decide +kernel
theorem dJ2_charAt_3b067_5 : decode cJ2_charAt_3b067 5 = .ok (.aload_n 0, 1) := by decide +kernel
theorem dJ2_charAt_3b067_6 : decode cJ2_charAt_3b067 6 = .ok (.iload_n 1, 1) := by decide +kernel
theorem dJ2_charAt_3b067_7 : decode cJ2_charAt_3b067 7 = .ok (.invokestatic 71, 3) := by decide +kernel
theorem dJ2_charAt_3b067_10 : decode cJ2_charAt_3b067 10 = .ok (.ireturn, 1) := by decide +kernel
theorem dJ2_checkIndex_2214a_0 : decode cJ2_checkIndex_2214a 0 = .ok (.iload_n 0, 1) := by decide +kernel
theorem dJ2_checkIndex_2214a_1 : decode cJ2_checkIndex_2214a 1 = .ok (.aload_n 1, 1) := by decide +kernel
theorem dJ2_checkIndex_2214a_2 : decode cJ2_checkIndex_2214a 2 = .ok (.invokestatic 48, 3) := by decide +kernel
theorem dJ2_checkIndex_2214a_5 : decode cJ2_checkIndex_2214a 5 = .ok (.invokestatic 414, 3) := by decide +kernel
theorem dJ2_checkIndex_2214a_8 : decode cJ2_checkIndex_2214a 8 = .ok (.return_, 1) := by decide +kernel
theorem dJ7_fill_53178_0 : decode cJ7_fill_53178 0 = .ok (.iconst 0, 1) := by decide +kernel
theorem dJ7_fill_53178_1 : decode cJ7_fill_53178 1 = .ok (.istore_n 2, 1) := by decide +kernel
theorem dJ7_fill_53178_2 : decode cJ7_fill_53178 2 = .ok (.aload_n 0, 1) := by decide +kernel
theorem dJ7_fill_53178_3 : decode cJ7_fill_53178 3 = .ok (.arraylength, 1) := by decide +kernel
theorem dJ7_fill_53178_4 : decode cJ7_fill_53178 4 = .ok (.istore_n 3, 1) := by decide +kernel
theorem dJ7_fill_53178_5 : decode cJ7_fill_53178 5 = .ok (.iload_n 2, 1) := by decide +kernel
theorem dJ7_fill_53178_6 : decode cJ7_fill_53178 6 = .ok (.iload_n 3, 1) := by decide +kernel
theorem dJ7_fill_53178_7 : decode cJ7_fill_53178 7 = .ok (.if_icmp .ge 13, 3) := by decide +kernel
theorem dJ7_fill_53178_10 : decode cJ7_fill_53178 10 = .ok (.aload_n 0, 1) := by decide +kernel
theorem dJ7_fill_53178_11 : decode cJ7_fill_53178 11 = .ok (.iload_n 2, 1) := by decide +kernel
theorem dJ7_fill_53178_12 : decode cJ7_fill_53178 12 = .ok (.iload_n 1, 1) := by decide +kernel
theorem dJ7_fill_53178_13 : decode cJ7_fill_53178 13 = .ok (.iastore, 1) := by decide +kernel
theorem dJ7_fill_53178_14 : decode cJ7_fill_53178 14 = .ok (.iinc 2 1, 3) := by decide +kernel
theorem dJ7_fill_53178_17 : decode cJ7_fill_53178 17 = .ok (.goto (-12), 3) := by decide +kernel
theorem dJ7_fill_53178_20 : decode cJ7_fill_53178 20 = .ok (.return_, 1) := by decide +kernel
theorem dJ3_checkIndex_8e157_0 : decode cJ3_checkIndex_8e157 0 = .ok (.iload_n 0, 1) := by decide +kernel
theorem dJ3_checkIndex_8e157_1 : decode cJ3_checkIndex_8e157 1 = .ok (.ifCond .lt 8, 3) := by decide +kernel
theorem dJ3_checkIndex_8e157_4 : decode cJ3_checkIndex_8e157 4 = .ok (.iload_n 0, 1) := by decide +kernel
theorem dJ3_checkIndex_8e157_5 : decode cJ3_checkIndex_8e157 5 = .ok (.iload_n 1, 1) := by decide +kernel
theorem dJ3_checkIndex_8e157_6 : decode cJ3_checkIndex_8e157 6 = .ok (.if_icmp .lt 10, 3) := by decide +kernel
theorem dJ3_checkIndex_8e157_9 : decode cJ3_checkIndex_8e157 9 = .ok (.aload_n 2, 1) := by decide +kernel
theorem dJ3_checkIndex_8e157_10 : decode cJ3_checkIndex_8e157 10 = .ok (.iload_n 0, 1) := by decide +kernel
theorem dJ3_checkIndex_8e157_11 : decode cJ3_checkIndex_8e157 11 = .ok (.iload_n 1, 1) := by decide +kernel
theorem dJ3_checkIndex_8e157_12 : decode cJ3_checkIndex_8e157 12 = .ok (.invokestatic 95, 3) := by decide +kernel
theorem dJ3_checkIndex_8e157_15 : decode cJ3_checkIndex_8e157 15 = .ok (.athrow, 1) := by decide +kernel
theorem dJ3_checkIndex_8e157_16 : decode cJ3_checkIndex_8e157 16 = .ok (.iload_n 0, 1) := by decide +kernel
theorem dJ3_checkIndex_8e157_17 : decode cJ3_checkIndex_8e157 17 = .ok (.ireturn, 1) := by decide +kernel
theorem dL_feed_0 : decode cL_feed 0 = .ok (.aload 6, 2) := by decide +kernel
theorem dL_feed_2 : decode cL_feed 2 = .ok (.iconst 0, 1) := by decide +kernel
theorem dL_feed_3 : decode cL_feed 3 = .ok (.aload_n 0, 1) := by decide +kernel
theorem dL_feed_4 : decode cL_feed 4 = .ok (.iload_n 1, 1) := by decide +kernel
theorem dL_feed_5 : decode cL_feed 5 = .ok (.iload_n 2, 1) := by decide +kernel
theorem dL_feed_6 : decode cL_feed 6 = .ok (.iload_n 3, 1) := by decide +kernel
theorem dL_feed_7 : decode cL_feed 7 = .ok (.iload 4, 2) := by decide +kernel
theorem dL_feed_9 : decode cL_feed 9 = .ok (.iload 5, 2) := by decide +kernel
theorem dL_feed_11 : decode cL_feed 11 = .ok (.invokevirtual 7, 3) := by decide +kernel
theorem dL_feed_14 : decode cL_feed 14 = .ok (.i2l, 1) := by decide +kernel
theorem dL_feed_15 : decode cL_feed 15 = .ok (.lastore, 1) := by decide +kernel
theorem dL_feed_16 : decode cL_feed 16 = .ok (.goto 7, 3) := by decide +kernel
theorem dL_feed_19 : decode cL_feed 19 = .ok (.astore 7, 2) := by decide +kernel
theorem dL_feed_21 : decode cL_feed 21 = .ok (.iconst 1, 1) := by decide +kernel
theorem dL_feed_22 : decode cL_feed 22 = .ok (.ireturn, 1) := by decide +kernel
theorem dL_feed_23 : decode cL_feed 23 = .ok (.iconst 0, 1) := by decide +kernel
theorem dL_feed_24 : decode cL_feed 24 = .ok (.ireturn, 1) := by decide +kernel
theorem dL_trim_0 : decode cL_trim 0 = .ok (.aload_n 2, 1) := by decide +kernel
theorem dL_trim_1 : decode cL_trim 1 = .ok (.iconst 0, 1) := by decide +kernel
theorem dL_trim_2 : decode cL_trim 2 = .ok (.aload_n 0, 1) := by decide +kernel
theorem dL_trim_3 : decode cL_trim 3 = .ok (.iload_n 1, 1) := by decide +kernel
theorem dL_trim_4 : decode cL_trim 4 = .ok (.invokevirtual 15, 3) := by decide +kernel
theorem dL_trim_7 : decode cL_trim 7 = .ok (.i2l, 1) := by decide +kernel
theorem dL_trim_8 : decode cL_trim 8 = .ok (.lastore, 1) := by decide +kernel
theorem dL_trim_9 : decode cL_trim 9 = .ok (.goto 6, 3) := by decide +kernel
theorem dL_trim_12 : decode cL_trim 12 = .ok (.astore_n 3, 1) := by decide +kernel
theorem dL_trim_13 : decode cL_trim 13 = .ok (.iconst 1, 1) := by decide +kernel
theorem dL_trim_14 : decode cL_trim 14 = .ok (.ireturn, 1) := by decide +kernel
theorem dL_trim_15 : decode cL_trim 15 = .ok (.iconst 0, 1) := by decide +kernel
theorem dL_trim_16 : decode cL_trim 16 = .ok (.ireturn, 1) := by decide +kernel
theorem dL_count_0 : decode cL_count 0 = .ok (.aload_n 2, 1) := by decide +kernel
theorem dL_count_1 : decode cL_count 1 = .ok (.iconst 0, 1) := by decide +kernel
theorem dL_count_2 : decode cL_count 2 = .ok (.aload_n 0, 1) := by decide +kernel
theorem dL_count_3 : decode cL_count 3 = .ok (.iload_n 1, 1) := by decide +kernel
theorem dL_count_4 : decode cL_count 4 = .ok (.invokevirtual 21, 3) := by decide +kernel
theorem dL_count_7 : decode cL_count 7 = .ok (.i2l, 1) := by decide +kernel
theorem dL_count_8 : decode cL_count 8 = .ok (.lastore, 1) := by decide +kernel
theorem dL_count_9 : decode cL_count 9 = .ok (.goto 6, 3) := by decide +kernel
theorem dL_count_12 : decode cL_count 12 = .ok (.astore_n 3, 1) := by decide +kernel
theorem dL_count_13 : decode cL_count 13 = .ok (.iconst 1, 1) := by decide +kernel
theorem dL_count_14 : decode cL_count 14 = .ok (.ireturn, 1) := by decide +kernel
theorem dL_count_15 : decode cL_count 15 = .ok (.iconst 0, 1) := by decide +kernel
theorem dL_count_16 : decode cL_count 16 = .ok (.ireturn, 1) := by decide +kernel
theorem dL_cell_0 : decode cL_cell 0 = .ok (.aload_n 3, 1) := by decide +kernel
theorem dL_cell_1 : decode cL_cell 1 = .ok (.iconst 0, 1) := by decide +kernel
theorem dL_cell_2 : decode cL_cell 2 = .ok (.aload_n 0, 1) := by decide +kernel
theorem dL_cell_3 : decode cL_cell 3 = .ok (.iload_n 1, 1) := by decide +kernel
theorem dL_cell_4 : decode cL_cell 4 = .ok (.iload_n 2, 1) := by decide +kernel
theorem dL_cell_5 : decode cL_cell 5 = .ok (.invokevirtual 26, 3) := by decide +kernel
theorem dL_cell_8 : decode cL_cell 8 = .ok (.i2l, 1) := by decide +kernel
theorem dL_cell_9 : decode cL_cell 9 = .ok (.lastore, 1) := by decide +kernel
theorem dL_cell_10 : decode cL_cell 10 = .ok (.goto 7, 3) := by decide +kernel
theorem dL_cell_13 : decode cL_cell 13 = .ok (.astore 4, 2) := by decide +kernel
theorem dL_cell_15 : decode cL_cell 15 = .ok (.iconst 1, 1) := by decide +kernel
theorem dL_cell_16 : decode cL_cell 16 = .ok (.ireturn, 1) := by decide +kernel
theorem dL_cell_17 : decode cL_cell 17 = .ok (.iconst 0, 1) := by decide +kernel
theorem dL_cell_18 : decode cL_cell 18 = .ok (.ireturn, 1) := by decide +kernel
theorem dL_at_0 : decode cL_at 0 = .ok (.aload_n 3, 1) := by decide +kernel
theorem dL_at_1 : decode cL_at 1 = .ok (.iconst 0, 1) := by decide +kernel
theorem dL_at_2 : decode cL_at 2 = .ok (.aload_n 0, 1) := by decide +kernel
theorem dL_at_3 : decode cL_at 3 = .ok (.iload_n 1, 1) := by decide +kernel
theorem dL_at_4 : decode cL_at 4 = .ok (.iload_n 2, 1) := by decide +kernel
theorem dL_at_5 : decode cL_at 5 = .ok (.invokevirtual 30, 3) := by decide +kernel
theorem dL_at_8 : decode cL_at 8 = .ok (.i2l, 1) := by decide +kernel
theorem dL_at_9 : decode cL_at 9 = .ok (.lastore, 1) := by decide +kernel
theorem dL_at_10 : decode cL_at 10 = .ok (.goto 7, 3) := by decide +kernel
theorem dL_at_13 : decode cL_at 13 = .ok (.astore 4, 2) := by decide +kernel
theorem dL_at_15 : decode cL_at 15 = .ok (.iconst 1, 1) := by decide +kernel
theorem dL_at_16 : decode cL_at 16 = .ok (.ireturn, 1) := by decide +kernel
theorem dL_at_17 : decode cL_at 17 = .ok (.iconst 0, 1) := by decide +kernel
theorem dL_at_18 : decode cL_at 18 = .ok (.ireturn, 1) := by decide +kernel
theorem dL_name_0 : decode cL_name 0 = .ok (.aload_n 2, 1) := by decide +kernel
theorem dL_name_1 : decode cL_name 1 = .ok (.iconst 0, 1) := by decide +kernel
theorem dL_name_2 : decode cL_name 2 = .ok (.aload_n 0, 1) := by decide +kernel
theorem dL_name_3 : decode cL_name 3 = .ok (.iload_n 1, 1) := by decide +kernel
theorem dL_name_4 : decode cL_name 4 = .ok (.invokevirtual 33, 3) := by decide +kernel
theorem dL_name_7 : decode cL_name 7 = .ok (.i2l, 1) := by decide +kernel
theorem dL_name_8 : decode cL_name 8 = .ok (.lastore, 1) := by decide +kernel
theorem dL_name_9 : decode cL_name 9 = .ok (.goto 6, 3) := by decide +kernel
theorem dL_name_12 : decode cL_name 12 = .ok (.astore_n 3, 1) := by decide +kernel
theorem dL_name_13 : decode cL_name 13 = .ok (.iconst 1, 1) := by decide +kernel
theorem dL_name_14 : decode cL_name 14 = .ok (.ireturn, 1) := by decide +kernel
theorem dL_name_15 : decode cL_name 15 = .ok (.iconst 0, 1) := by decide +kernel
theorem dL_name_16 : decode cL_name 16 = .ok (.ireturn, 1) := by decide +kernel
theorem dL_far_0 : decode cL_far 0 = .ok (.aload 4, 2) := by decide +kernel
theorem dL_far_2 : decode cL_far 2 = .ok (.iconst 0, 1) := by decide +kernel
theorem dL_far_3 : decode cL_far 3 = .ok (.aload_n 0, 1) := by decide +kernel
theorem dL_far_4 : decode cL_far 4 = .ok (.iload_n 1, 1) := by decide +kernel
theorem dL_far_5 : decode cL_far 5 = .ok (.iload_n 2, 1) := by decide +kernel
theorem dL_far_6 : decode cL_far 6 = .ok (.iload_n 3, 1) := by decide +kernel
theorem dL_far_7 : decode cL_far 7 = .ok (.invokevirtual 36, 3) := by decide +kernel
theorem dL_far_10 : decode cL_far 10 = .ok (.i2l, 1) := by decide +kernel
theorem dL_far_11 : decode cL_far 11 = .ok (.lastore, 1) := by decide +kernel
theorem dL_far_12 : decode cL_far 12 = .ok (.goto 11, 3) := by decide +kernel
theorem dL_far_15 : decode cL_far 15 = .ok (.astore 5, 2) := by decide +kernel
theorem dL_far_17 : decode cL_far 17 = .ok (.iconst 1, 1) := by decide +kernel
theorem dL_far_18 : decode cL_far 18 = .ok (.ireturn, 1) := by decide +kernel
theorem dL_far_19 : decode cL_far 19 = .ok (.astore 5, 2) := by decide +kernel
theorem dL_far_21 : decode cL_far 21 = .ok (.iconst 2, 1) := by decide +kernel
theorem dL_far_22 : decode cL_far 22 = .ok (.ireturn, 1) := by decide +kernel
theorem dL_far_23 : decode cL_far 23 = .ok (.iconst 0, 1) := by decide +kernel
theorem dL_far_24 : decode cL_far 24 = .ok (.ireturn, 1) := by decide +kernel
theorem dL_legal_0 : decode cL_legal 0 = .ok (.aload_n 3, 1) := by decide +kernel
theorem dL_legal_1 : decode cL_legal 1 = .ok (.iconst 0, 1) := by decide +kernel
theorem dL_legal_2 : decode cL_legal 2 = .ok (.aload_n 0, 1) := by decide +kernel
theorem dL_legal_3 : decode cL_legal 3 = .ok (.iload_n 1, 1) := by decide +kernel
theorem dL_legal_4 : decode cL_legal 4 = .ok (.iload_n 2, 1) := by decide +kernel
theorem dL_legal_5 : decode cL_legal 5 = .ok (.invokevirtual 40, 3) := by decide +kernel
theorem dL_legal_8 : decode cL_legal 8 = .ok (.ifCond .eq 7, 3) := by decide +kernel
theorem dL_legal_11 : decode cL_legal 11 = .ok (.lconst 1, 1) := by decide +kernel
theorem dL_legal_12 : decode cL_legal 12 = .ok (.goto 4, 3) := by decide +kernel
theorem dL_legal_15 : decode cL_legal 15 = .ok (.lconst 0, 1) := by decide +kernel
theorem dL_legal_16 : decode cL_legal 16 = .ok (.lastore, 1) := by decide +kernel
theorem dL_legal_17 : decode cL_legal 17 = .ok (.goto 7, 3) := by decide +kernel
theorem dL_legal_20 : decode cL_legal 20 = .ok (.astore 4, 2) := by decide +kernel
theorem dL_legal_22 : decode cL_legal 22 = .ok (.iconst 1, 1) := by decide +kernel
theorem dL_legal_23 : decode cL_legal 23 = .ok (.ireturn, 1) := by decide +kernel
theorem dL_legal_24 : decode cL_legal 24 = .ok (.iconst 0, 1) := by decide +kernel
theorem dL_legal_25 : decode cL_legal 25 = .ok (.ireturn, 1) := by decide +kernel
theorem dL_nth_0 : decode cL_nth 0 = .ok (.aload_n 2, 1) := by decide +kernel
theorem dL_nth_1 : decode cL_nth 1 = .ok (.iconst 0, 1) := by decide +kernel
theorem dL_nth_2 : decode cL_nth 2 = .ok (.aload_n 0, 1) := by decide +kernel
theorem dL_nth_3 : decode cL_nth 3 = .ok (.iload_n 1, 1) := by decide +kernel
theorem dL_nth_4 : decode cL_nth 4 = .ok (.invokevirtual 44, 3) := by decide +kernel
theorem dL_nth_7 : decode cL_nth 7 = .ok (.i2l, 1) := by decide +kernel
theorem dL_nth_8 : decode cL_nth 8 = .ok (.lastore, 1) := by decide +kernel
theorem dL_nth_9 : decode cL_nth 9 = .ok (.goto 6, 3) := by decide +kernel
theorem dL_nth_12 : decode cL_nth 12 = .ok (.astore_n 3, 1) := by decide +kernel
theorem dL_nth_13 : decode cL_nth 13 = .ok (.iconst 1, 1) := by decide +kernel
theorem dL_nth_14 : decode cL_nth 14 = .ok (.ireturn, 1) := by decide +kernel
theorem dL_nth_15 : decode cL_nth 15 = .ok (.iconst 0, 1) := by decide +kernel
theorem dL_nth_16 : decode cL_nth 16 = .ok (.ireturn, 1) := by decide +kernel
theorem dL_move_0 : decode cL_move 0 = .ok (.aload 4, 2) := by decide +kernel
theorem dL_move_2 : decode cL_move 2 = .ok (.iconst 0, 1) := by decide +kernel
theorem dL_move_3 : decode cL_move 3 = .ok (.aload_n 0, 1) := by decide +kernel
theorem dL_move_4 : decode cL_move 4 = .ok (.iload_n 1, 1) := by decide +kernel
theorem dL_move_5 : decode cL_move 5 = .ok (.iload_n 2, 1) := by decide +kernel
theorem dL_move_6 : decode cL_move 6 = .ok (.iload_n 3, 1) := by decide +kernel
theorem dL_move_7 : decode cL_move 7 = .ok (.invokevirtual 47, 3) := by decide +kernel
theorem dL_move_10 : decode cL_move 10 = .ok (.i2l, 1) := by decide +kernel
theorem dL_move_11 : decode cL_move 11 = .ok (.lastore, 1) := by decide +kernel
theorem dL_move_12 : decode cL_move 12 = .ok (.goto 15, 3) := by decide +kernel
theorem dL_move_15 : decode cL_move 15 = .ok (.astore 5, 2) := by decide +kernel
theorem dL_move_17 : decode cL_move 17 = .ok (.iconst 1, 1) := by decide +kernel
theorem dL_move_18 : decode cL_move 18 = .ok (.ireturn, 1) := by decide +kernel
theorem dL_move_19 : decode cL_move 19 = .ok (.astore 5, 2) := by decide +kernel
theorem dL_move_21 : decode cL_move 21 = .ok (.iconst 2, 1) := by decide +kernel
theorem dL_move_22 : decode cL_move 22 = .ok (.ireturn, 1) := by decide +kernel
theorem dL_move_23 : decode cL_move 23 = .ok (.astore 5, 2) := by decide +kernel
theorem dL_move_25 : decode cL_move 25 = .ok (.iconst 3, 1) := by decide +kernel
theorem dL_move_26 : decode cL_move 26 = .ok (.ireturn, 1) := by decide +kernel
theorem dL_move_27 : decode cL_move 27 = .ok (.iconst 0, 1) := by decide +kernel
theorem dL_move_28 : decode cL_move 28 = .ok (.ireturn, 1) := by decide +kernel
theorem dL_back_0 : decode cL_back 0 = .ok (.aload_n 1, 1) := by decide +kernel
theorem dL_back_1 : decode cL_back 1 = .ok (.iconst 0, 1) := by decide +kernel
theorem dL_back_2 : decode cL_back 2 = .ok (.aload_n 0, 1) := by decide +kernel
theorem dL_back_3 : decode cL_back 3 = .ok (.invokevirtual 50, 3) := by decide +kernel
theorem dL_back_6 : decode cL_back 6 = .ok (.i2l, 1) := by decide +kernel
theorem dL_back_7 : decode cL_back 7 = .ok (.lastore, 1) := by decide +kernel
theorem dL_back_8 : decode cL_back 8 = .ok (.goto 6, 3) := by decide +kernel
theorem dL_back_11 : decode cL_back 11 = .ok (.astore_n 2, 1) := by decide +kernel
theorem dL_back_12 : decode cL_back 12 = .ok (.iconst 1, 1) := by decide +kernel
theorem dL_back_13 : decode cL_back 13 = .ok (.ireturn, 1) := by decide +kernel
theorem dL_back_14 : decode cL_back 14 = .ok (.iconst 0, 1) := by decide +kernel
theorem dL_back_15 : decode cL_back 15 = .ok (.ireturn, 1) := by decide +kernel
theorem dL_lines_0 : decode cL_lines 0 = .ok (.aload_n 2, 1) := by decide +kernel
theorem dL_lines_1 : decode cL_lines 1 = .ok (.iconst 0, 1) := by decide +kernel
theorem dL_lines_2 : decode cL_lines 2 = .ok (.aload_n 0, 1) := by decide +kernel
theorem dL_lines_3 : decode cL_lines 3 = .ok (.iload_n 1, 1) := by decide +kernel
theorem dL_lines_4 : decode cL_lines 4 = .ok (.invokevirtual 54, 3) := by decide +kernel
theorem dL_lines_7 : decode cL_lines 7 = .ok (.i2l, 1) := by decide +kernel
theorem dL_lines_8 : decode cL_lines 8 = .ok (.lastore, 1) := by decide +kernel
theorem dL_lines_9 : decode cL_lines 9 = .ok (.goto 6, 3) := by decide +kernel
theorem dL_lines_12 : decode cL_lines 12 = .ok (.astore_n 3, 1) := by decide +kernel
theorem dL_lines_13 : decode cL_lines 13 = .ok (.iconst 1, 1) := by decide +kernel
theorem dL_lines_14 : decode cL_lines 14 = .ok (.ireturn, 1) := by decide +kernel
theorem dL_lines_15 : decode cL_lines 15 = .ok (.iconst 0, 1) := by decide +kernel
theorem dL_lines_16 : decode cL_lines 16 = .ok (.ireturn, 1) := by decide +kernel
theorem dL_hanging_0 : decode cL_hanging 0 = .ok (.aload_n 2, 1) := by decide +kernel
theorem dL_hanging_1 : decode cL_hanging 1 = .ok (.iconst 0, 1) := by decide +kernel
theorem dL_hanging_2 : decode cL_hanging 2 = .ok (.aload_n 0, 1) := by decide +kernel
theorem dL_hanging_3 : decode cL_hanging 3 = .ok (.iload_n 1, 1) := by decide +kernel
theorem dL_hanging_4 : decode cL_hanging 4 = .ok (.invokevirtual 57, 3) := by decide +kernel
theorem dL_hanging_7 : decode cL_hanging 7 = .ok (.i2l, 1) := by decide +kernel
theorem dL_hanging_8 : decode cL_hanging 8 = .ok (.lastore, 1) := by decide +kernel
theorem dL_hanging_9 : decode cL_hanging 9 = .ok (.goto 6, 3) := by decide +kernel
theorem dL_hanging_12 : decode cL_hanging 12 = .ok (.astore_n 3, 1) := by decide +kernel
theorem dL_hanging_13 : decode cL_hanging 13 = .ok (.iconst 1, 1) := by decide +kernel
theorem dL_hanging_14 : decode cL_hanging 14 = .ok (.ireturn, 1) := by decide +kernel
theorem dL_hanging_15 : decode cL_hanging 15 = .ok (.iconst 0, 1) := by decide +kernel
theorem dL_hanging_16 : decode cL_hanging 16 = .ok (.ireturn, 1) := by decide +kernel
theorem dL_law_0 : decode cL_law 0 = .ok (.new 8, 3) := by decide +kernel
theorem dL_law_3 : decode cL_law 3 = .ok (.dup, 1) := by decide +kernel
theorem dL_law_4 : decode cL_law 4 = .ok (.invokespecial 60, 3) := by decide +kernel
theorem dL_law_7 : decode cL_law 7 = .ok (.astore_n 1, 1) := by decide +kernel
theorem dL_law_8 : decode cL_law 8 = .ok (.new 61, 3) := by decide +kernel
theorem dL_law_11 : decode cL_law 11 = .ok (.dup, 1) := by decide +kernel
theorem dL_law_12 : decode cL_law 12 = .ok (.invokespecial 63, 3) := by decide +kernel
theorem dL_law_15 : decode cL_law 15 = .ok (.astore_n 2, 1) := by decide +kernel
theorem dL_law_16 : decode cL_law 16 = .ok (.iconst 1, 1) := by decide +kernel
theorem dL_law_17 : decode cL_law 17 = .ok (.newarray .long, 2) := by decide +kernel
theorem dL_law_19 : decode cL_law 19 = .ok (.astore_n 3, 1) := by decide +kernel
theorem dL_law_20 : decode cL_law 20 = .ok (.iconst 0, 1) := by decide +kernel
theorem dL_law_21 : decode cL_law 21 = .ok (.istore 4, 2) := by decide +kernel
theorem dL_law_23 : decode cL_law 23 = .ok (.iload 4, 2) := by decide +kernel
theorem dL_law_25 : decode cL_law 25 = .ok (.aload_n 0, 1) := by decide +kernel
theorem dL_law_26 : decode cL_law 26 = .ok (.arraylength, 1) := by decide +kernel
theorem dL_law_27 : decode cL_law 27 = .ok (.bipush 6, 2) := by decide +kernel
theorem dL_law_29 : decode cL_law 29 = .ok (.isub, 1) := by decide +kernel
theorem dL_law_30 : decode cL_law 30 = .ok (.if_icmp .gt 1070, 3) := by decide +kernel
theorem dL_law_33 : decode cL_law 33 = .ok (.aload_n 0, 1) := by decide +kernel
theorem dL_law_34 : decode cL_law 34 = .ok (.iload 4, 2) := by decide +kernel
theorem dL_law_36 : decode cL_law 36 = .ok (.iaload, 1) := by decide +kernel
theorem dL_law_37 : decode cL_law 37 = .ok (.bipush 31, 2) := by decide +kernel
theorem dL_law_39 : decode cL_law 39 = .ok (.iand, 1) := by decide +kernel
theorem dL_law_40 : decode cL_law 40 = .ok (.tableswitch 1054 0 18 #[92, 196, 252, 265, 278, 334, 402, 470, 526, 606, 681, 737, 817, 861, 917, 930, 943, 999, 1040], 92) := by decide +kernel
theorem dL_law_132 : decode cL_law 132 = .ok (.aload_n 1, 1) := by decide +kernel
theorem dL_law_133 : decode cL_law 133 = .ok (.aload_n 0, 1) := by decide +kernel
theorem dL_law_134 : decode cL_law 134 = .ok (.iload 4, 2) := by decide +kernel
theorem dL_law_136 : decode cL_law 136 = .ok (.iconst 1, 1) := by decide +kernel
theorem dL_law_137 : decode cL_law 137 = .ok (.iadd, 1) := by decide +kernel
theorem dL_law_138 : decode cL_law 138 = .ok (.iaload, 1) := by decide +kernel
theorem dL_law_139 : decode cL_law 139 = .ok (.aload_n 0, 1) := by decide +kernel
theorem dL_law_140 : decode cL_law 140 = .ok (.iload 4, 2) := by decide +kernel
theorem dL_law_142 : decode cL_law 142 = .ok (.iconst 2, 1) := by decide +kernel
theorem dL_law_143 : decode cL_law 143 = .ok (.iadd, 1) := by decide +kernel
theorem dL_law_144 : decode cL_law 144 = .ok (.iaload, 1) := by decide +kernel
theorem dL_law_145 : decode cL_law 145 = .ok (.aload_n 0, 1) := by decide +kernel
theorem dL_law_146 : decode cL_law 146 = .ok (.iload 4, 2) := by decide +kernel
theorem dL_law_148 : decode cL_law 148 = .ok (.iconst 3, 1) := by decide +kernel
theorem dL_law_149 : decode cL_law 149 = .ok (.iadd, 1) := by decide +kernel
theorem dL_law_150 : decode cL_law 150 = .ok (.iaload, 1) := by decide +kernel
theorem dL_law_151 : decode cL_law 151 = .ok (.aload_n 0, 1) := by decide +kernel
theorem dL_law_152 : decode cL_law 152 = .ok (.iload 4, 2) := by decide +kernel
theorem dL_law_154 : decode cL_law 154 = .ok (.iconst 4, 1) := by decide +kernel
theorem dL_law_155 : decode cL_law 155 = .ok (.iadd, 1) := by decide +kernel
theorem dL_law_156 : decode cL_law 156 = .ok (.iaload, 1) := by decide +kernel
theorem dL_law_157 : decode cL_law 157 = .ok (.aload_n 0, 1) := by decide +kernel
theorem dL_law_158 : decode cL_law 158 = .ok (.iload 4, 2) := by decide +kernel
theorem dL_law_160 : decode cL_law 160 = .ok (.iconst 5, 1) := by decide +kernel
theorem dL_law_161 : decode cL_law 161 = .ok (.iadd, 1) := by decide +kernel
theorem dL_law_162 : decode cL_law 162 = .ok (.iaload, 1) := by decide +kernel
theorem dL_law_163 : decode cL_law 163 = .ok (.aload_n 3, 1) := by decide +kernel
theorem dL_law_164 : decode cL_law 164 = .ok (.invokestatic 64, 3) := by decide +kernel
theorem dL_law_167 : decode cL_law 167 = .ok (.istore 5, 2) := by decide +kernel
theorem dL_law_169 : decode cL_law 169 = .ok (.aload_n 2, 1) := by decide +kernel
theorem dL_law_170 : decode cL_law 170 = .ok (.aload_n 0, 1) := by decide +kernel
theorem dL_law_171 : decode cL_law 171 = .ok (.iload 4, 2) := by decide +kernel
theorem dL_law_173 : decode cL_law 173 = .ok (.iconst 1, 1) := by decide +kernel
theorem dL_law_174 : decode cL_law 174 = .ok (.iadd, 1) := by decide +kernel
theorem dL_law_175 : decode cL_law 175 = .ok (.iaload, 1) := by decide +kernel
theorem dL_law_176 : decode cL_law 176 = .ok (.aload_n 0, 1) := by decide +kernel
theorem dL_law_177 : decode cL_law 177 = .ok (.iload 4, 2) := by decide +kernel
theorem dL_law_179 : decode cL_law 179 = .ok (.iconst 2, 1) := by decide +kernel
theorem dL_law_180 : decode cL_law 180 = .ok (.iadd, 1) := by decide +kernel
theorem dL_law_181 : decode cL_law 181 = .ok (.iaload, 1) := by decide +kernel
theorem dL_law_182 : decode cL_law 182 = .ok (.aload_n 0, 1) := by decide +kernel
theorem dL_law_183 : decode cL_law 183 = .ok (.iload 4, 2) := by decide +kernel
theorem dL_law_185 : decode cL_law 185 = .ok (.iconst 3, 1) := by decide +kernel
theorem dL_law_186 : decode cL_law 186 = .ok (.iadd, 1) := by decide +kernel
theorem dL_law_187 : decode cL_law 187 = .ok (.iaload, 1) := by decide +kernel
theorem dL_law_188 : decode cL_law 188 = .ok (.aload_n 0, 1) := by decide +kernel
theorem dL_law_189 : decode cL_law 189 = .ok (.iload 4, 2) := by decide +kernel
theorem dL_law_191 : decode cL_law 191 = .ok (.iconst 4, 1) := by decide +kernel
theorem dL_law_192 : decode cL_law 192 = .ok (.iadd, 1) := by decide +kernel
theorem dL_law_193 : decode cL_law 193 = .ok (.iaload, 1) := by decide +kernel
theorem dL_law_194 : decode cL_law 194 = .ok (.aload_n 0, 1) := by decide +kernel
theorem dL_law_195 : decode cL_law 195 = .ok (.iload 4, 2) := by decide +kernel
theorem dL_law_197 : decode cL_law 197 = .ok (.iconst 5, 1) := by decide +kernel
theorem dL_law_198 : decode cL_law 198 = .ok (.iadd, 1) := by decide +kernel
theorem dL_law_199 : decode cL_law 199 = .ok (.iaload, 1) := by decide +kernel
theorem dL_law_200 : decode cL_law 200 = .ok (.invokevirtual 69, 3) := by decide +kernel
theorem dL_law_203 : decode cL_law 203 = .ok (.istore 6, 2) := by decide +kernel
theorem dL_law_205 : decode cL_law 205 = .ok (.aload_n 2, 1) := by decide +kernel
theorem dL_law_206 : decode cL_law 206 = .ok (.invokevirtual 70, 3) := by decide +kernel
theorem dL_law_209 : decode cL_law 209 = .ok (.iload 5, 2) := by decide +kernel
theorem dL_law_211 : decode cL_law 211 = .ok (.if_icmp .eq 5, 3) := by decide +kernel
theorem dL_law_214 : decode cL_law 214 = .ok (.iconst 0, 1) := by decide +kernel
theorem dL_law_215 : decode cL_law 215 = .ok (.ireturn, 1) := by decide +kernel
theorem dL_law_216 : decode cL_law 216 = .ok (.iload 5, 2) := by decide +kernel
theorem dL_law_218 : decode cL_law 218 = .ok (.ifCond .ne 15, 3) := by decide +kernel
theorem dL_law_221 : decode cL_law 221 = .ok (.aload_n 3, 1) := by decide +kernel
theorem dL_law_222 : decode cL_law 222 = .ok (.iconst 0, 1) := by decide +kernel
theorem dL_law_223 : decode cL_law 223 = .ok (.laload, 1) := by decide +kernel
theorem dL_law_224 : decode cL_law 224 = .ok (.iload 6, 2) := by decide +kernel
theorem dL_law_226 : decode cL_law 226 = .ok (.i2l, 1) := by decide +kernel
theorem dL_law_227 : decode cL_law 227 = .ok (.lcmp, 1) := by decide +kernel
theorem dL_law_228 : decode cL_law 228 = .ok (.ifCond .eq 5, 3) := by decide +kernel
theorem dL_law_231 : decode cL_law 231 = .ok (.iconst 0, 1) := by decide +kernel
theorem dL_law_232 : decode cL_law 232 = .ok (.ireturn, 1) := by decide +kernel
theorem dL_law_233 : decode cL_law 233 = .ok (.goto 861, 3) := by decide +kernel
theorem dL_law_236 : decode cL_law 236 = .ok (.aload_n 1, 1) := by decide +kernel
theorem dL_law_237 : decode cL_law 237 = .ok (.aload_n 0, 1) := by decide +kernel
theorem dL_law_238 : decode cL_law 238 = .ok (.iload 4, 2) := by decide +kernel
theorem dL_law_240 : decode cL_law 240 = .ok (.iconst 1, 1) := by decide +kernel
theorem dL_law_241 : decode cL_law 241 = .ok (.iadd, 1) := by decide +kernel
theorem dL_law_242 : decode cL_law 242 = .ok (.iaload, 1) := by decide +kernel
theorem dL_law_243 : decode cL_law 243 = .ok (.aload_n 3, 1) := by decide +kernel
theorem dL_law_244 : decode cL_law 244 = .ok (.invokestatic 73, 3) := by decide +kernel
theorem dL_law_247 : decode cL_law 247 = .ok (.istore 5, 2) := by decide +kernel
theorem dL_law_249 : decode cL_law 249 = .ok (.aload_n 2, 1) := by decide +kernel
theorem dL_law_250 : decode cL_law 250 = .ok (.aload_n 0, 1) := by decide +kernel
theorem dL_law_251 : decode cL_law 251 = .ok (.iload 4, 2) := by decide +kernel
theorem dL_law_253 : decode cL_law 253 = .ok (.iconst 1, 1) := by decide +kernel
theorem dL_law_254 : decode cL_law 254 = .ok (.iadd, 1) := by decide +kernel
theorem dL_law_255 : decode cL_law 255 = .ok (.iaload, 1) := by decide +kernel
theorem dL_law_256 : decode cL_law 256 = .ok (.invokevirtual 76, 3) := by decide +kernel
theorem dL_law_259 : decode cL_law 259 = .ok (.istore 6, 2) := by decide +kernel
theorem dL_law_261 : decode cL_law 261 = .ok (.aload_n 2, 1) := by decide +kernel
theorem dL_law_262 : decode cL_law 262 = .ok (.invokevirtual 70, 3) := by decide +kernel
theorem dL_law_265 : decode cL_law 265 = .ok (.iload 5, 2) := by decide +kernel
theorem dL_law_267 : decode cL_law 267 = .ok (.if_icmp .eq 5, 3) := by decide +kernel
theorem dL_law_270 : decode cL_law 270 = .ok (.iconst 0, 1) := by decide +kernel
theorem dL_law_271 : decode cL_law 271 = .ok (.ireturn, 1) := by decide +kernel
theorem dL_law_272 : decode cL_law 272 = .ok (.iload 5, 2) := by decide +kernel
theorem dL_law_274 : decode cL_law 274 = .ok (.ifCond .ne 15, 3) := by decide +kernel
theorem dL_law_277 : decode cL_law 277 = .ok (.aload_n 3, 1) := by decide +kernel
theorem dL_law_278 : decode cL_law 278 = .ok (.iconst 0, 1) := by decide +kernel
theorem dL_law_279 : decode cL_law 279 = .ok (.laload, 1) := by decide +kernel
theorem dL_law_280 : decode cL_law 280 = .ok (.iload 6, 2) := by decide +kernel
theorem dL_law_282 : decode cL_law 282 = .ok (.i2l, 1) := by decide +kernel
theorem dL_law_283 : decode cL_law 283 = .ok (.lcmp, 1) := by decide +kernel
theorem dL_law_284 : decode cL_law 284 = .ok (.ifCond .eq 5, 3) := by decide +kernel
theorem dL_law_287 : decode cL_law 287 = .ok (.iconst 0, 1) := by decide +kernel
theorem dL_law_288 : decode cL_law 288 = .ok (.ireturn, 1) := by decide +kernel
theorem dL_law_289 : decode cL_law 289 = .ok (.goto 805, 3) := by decide +kernel
theorem dL_law_292 : decode cL_law 292 = .ok (.aload_n 1, 1) := by decide +kernel
theorem dL_law_293 : decode cL_law 293 = .ok (.invokevirtual 77, 3) := by decide +kernel
theorem dL_law_296 : decode cL_law 296 = .ok (.aload_n 2, 1) := by decide +kernel
theorem dL_law_297 : decode cL_law 297 = .ok (.invokevirtual 80, 3) := by decide +kernel
theorem dL_law_300 : decode cL_law 300 = .ok (.if_icmp .eq 794, 3) := by decide +kernel
theorem dL_law_303 : decode cL_law 303 = .ok (.iconst 0, 1) := by decide +kernel
theorem dL_law_304 : decode cL_law 304 = .ok (.ireturn, 1) := by decide +kernel
theorem dL_law_305 : decode cL_law 305 = .ok (.aload_n 1, 1) := by decide +kernel
theorem dL_law_306 : decode cL_law 306 = .ok (.invokevirtual 81, 3) := by decide +kernel
theorem dL_law_309 : decode cL_law 309 = .ok (.aload_n 2, 1) := by decide +kernel
theorem dL_law_310 : decode cL_law 310 = .ok (.invokevirtual 84, 3) := by decide +kernel
theorem dL_law_313 : decode cL_law 313 = .ok (.if_icmp .eq 781, 3) := by decide +kernel
theorem dL_law_316 : decode cL_law 316 = .ok (.iconst 0, 1) := by decide +kernel
theorem dL_law_317 : decode cL_law 317 = .ok (.ireturn, 1) := by decide +kernel
theorem dL_law_318 : decode cL_law 318 = .ok (.aload_n 1, 1) := by decide +kernel
theorem dL_law_319 : decode cL_law 319 = .ok (.aload_n 0, 1) := by decide +kernel
theorem dL_law_320 : decode cL_law 320 = .ok (.iload 4, 2) := by decide +kernel
theorem dL_law_322 : decode cL_law 322 = .ok (.iconst 1, 1) := by decide +kernel
theorem dL_law_323 : decode cL_law 323 = .ok (.iadd, 1) := by decide +kernel
theorem dL_law_324 : decode cL_law 324 = .ok (.iaload, 1) := by decide +kernel
theorem dL_law_325 : decode cL_law 325 = .ok (.aload_n 3, 1) := by decide +kernel
theorem dL_law_326 : decode cL_law 326 = .ok (.invokestatic 85, 3) := by decide +kernel
theorem dL_law_329 : decode cL_law 329 = .ok (.istore 5, 2) := by decide +kernel
theorem dL_law_331 : decode cL_law 331 = .ok (.aload_n 2, 1) := by decide +kernel
theorem dL_law_332 : decode cL_law 332 = .ok (.aload_n 0, 1) := by decide +kernel
theorem dL_law_333 : decode cL_law 333 = .ok (.iload 4, 2) := by decide +kernel
theorem dL_law_335 : decode cL_law 335 = .ok (.iconst 1, 1) := by decide +kernel
theorem dL_law_336 : decode cL_law 336 = .ok (.iadd, 1) := by decide +kernel
theorem dL_law_337 : decode cL_law 337 = .ok (.iaload, 1) := by decide +kernel
theorem dL_law_338 : decode cL_law 338 = .ok (.invokevirtual 87, 3) := by decide +kernel
theorem dL_law_341 : decode cL_law 341 = .ok (.istore 6, 2) := by decide +kernel
theorem dL_law_343 : decode cL_law 343 = .ok (.aload_n 2, 1) := by decide +kernel
theorem dL_law_344 : decode cL_law 344 = .ok (.invokevirtual 70, 3) := by decide +kernel
theorem dL_law_347 : decode cL_law 347 = .ok (.iload 5, 2) := by decide +kernel
theorem dL_law_349 : decode cL_law 349 = .ok (.if_icmp .eq 5, 3) := by decide +kernel
theorem dL_law_352 : decode cL_law 352 = .ok (.iconst 0, 1) := by decide +kernel
theorem dL_law_353 : decode cL_law 353 = .ok (.ireturn, 1) := by decide +kernel
theorem dL_law_354 : decode cL_law 354 = .ok (.iload 5, 2) := by decide +kernel
theorem dL_law_356 : decode cL_law 356 = .ok (.ifCond .ne 15, 3) := by decide +kernel
theorem dL_law_359 : decode cL_law 359 = .ok (.aload_n 3, 1) := by decide +kernel
theorem dL_law_360 : decode cL_law 360 = .ok (.iconst 0, 1) := by decide +kernel
theorem dL_law_361 : decode cL_law 361 = .ok (.laload, 1) := by decide +kernel
theorem dL_law_362 : decode cL_law 362 = .ok (.iload 6, 2) := by decide +kernel
theorem dL_law_364 : decode cL_law 364 = .ok (.i2l, 1) := by decide +kernel
theorem dL_law_365 : decode cL_law 365 = .ok (.lcmp, 1) := by decide +kernel
theorem dL_law_366 : decode cL_law 366 = .ok (.ifCond .eq 5, 3) := by decide +kernel
theorem dL_law_369 : decode cL_law 369 = .ok (.iconst 0, 1) := by decide +kernel
theorem dL_law_370 : decode cL_law 370 = .ok (.ireturn, 1) := by decide +kernel
theorem dL_law_371 : decode cL_law 371 = .ok (.goto 723, 3) := by decide +kernel
theorem dL_law_374 : decode cL_law 374 = .ok (.aload_n 1, 1) := by decide +kernel
theorem dL_law_375 : decode cL_law 375 = .ok (.aload_n 0, 1) := by decide +kernel
theorem dL_law_376 : decode cL_law 376 = .ok (.iload 4, 2) := by decide +kernel
theorem dL_law_378 : decode cL_law 378 = .ok (.iconst 1, 1) := by decide +kernel
theorem dL_law_379 : decode cL_law 379 = .ok (.iadd, 1) := by decide +kernel
theorem dL_law_380 : decode cL_law 380 = .ok (.iaload, 1) := by decide +kernel
theorem dL_law_381 : decode cL_law 381 = .ok (.aload_n 0, 1) := by decide +kernel
theorem dL_law_382 : decode cL_law 382 = .ok (.iload 4, 2) := by decide +kernel
theorem dL_law_384 : decode cL_law 384 = .ok (.iconst 2, 1) := by decide +kernel
theorem dL_law_385 : decode cL_law 385 = .ok (.iadd, 1) := by decide +kernel
theorem dL_law_386 : decode cL_law 386 = .ok (.iaload, 1) := by decide +kernel
theorem dL_law_387 : decode cL_law 387 = .ok (.aload_n 3, 1) := by decide +kernel
theorem dL_law_388 : decode cL_law 388 = .ok (.invokestatic 88, 3) := by decide +kernel
theorem dL_law_391 : decode cL_law 391 = .ok (.istore 5, 2) := by decide +kernel
theorem dL_law_393 : decode cL_law 393 = .ok (.aload_n 2, 1) := by decide +kernel
theorem dL_law_394 : decode cL_law 394 = .ok (.aload_n 0, 1) := by decide +kernel
theorem dL_law_395 : decode cL_law 395 = .ok (.iload 4, 2) := by decide +kernel
theorem dL_law_397 : decode cL_law 397 = .ok (.iconst 1, 1) := by decide +kernel
theorem dL_law_398 : decode cL_law 398 = .ok (.iadd, 1) := by decide +kernel
theorem dL_law_399 : decode cL_law 399 = .ok (.iaload, 1) := by decide +kernel
theorem dL_law_400 : decode cL_law 400 = .ok (.aload_n 0, 1) := by decide +kernel
theorem dL_law_401 : decode cL_law 401 = .ok (.iload 4, 2) := by decide +kernel
theorem dL_law_403 : decode cL_law 403 = .ok (.iconst 2, 1) := by decide +kernel
theorem dL_law_404 : decode cL_law 404 = .ok (.iadd, 1) := by decide +kernel
theorem dL_law_405 : decode cL_law 405 = .ok (.iaload, 1) := by decide +kernel
theorem dL_law_406 : decode cL_law 406 = .ok (.invokevirtual 91, 3) := by decide +kernel
theorem dL_law_409 : decode cL_law 409 = .ok (.istore 6, 2) := by decide +kernel
theorem dL_law_411 : decode cL_law 411 = .ok (.aload_n 2, 1) := by decide +kernel
theorem dL_law_412 : decode cL_law 412 = .ok (.invokevirtual 70, 3) := by decide +kernel
theorem dL_law_415 : decode cL_law 415 = .ok (.iload 5, 2) := by decide +kernel
theorem dL_law_417 : decode cL_law 417 = .ok (.if_icmp .eq 5, 3) := by decide +kernel
theorem dL_law_420 : decode cL_law 420 = .ok (.iconst 0, 1) := by decide +kernel
theorem dL_law_421 : decode cL_law 421 = .ok (.ireturn, 1) := by decide +kernel
theorem dL_law_422 : decode cL_law 422 = .ok (.iload 5, 2) := by decide +kernel
theorem dL_law_424 : decode cL_law 424 = .ok (.ifCond .ne 15, 3) := by decide +kernel
theorem dL_law_427 : decode cL_law 427 = .ok (.aload_n 3, 1) := by decide +kernel
theorem dL_law_428 : decode cL_law 428 = .ok (.iconst 0, 1) := by decide +kernel
theorem dL_law_429 : decode cL_law 429 = .ok (.laload, 1) := by decide +kernel
theorem dL_law_430 : decode cL_law 430 = .ok (.iload 6, 2) := by decide +kernel
theorem dL_law_432 : decode cL_law 432 = .ok (.i2l, 1) := by decide +kernel
theorem dL_law_433 : decode cL_law 433 = .ok (.lcmp, 1) := by decide +kernel
theorem dL_law_434 : decode cL_law 434 = .ok (.ifCond .eq 5, 3) := by decide +kernel
theorem dL_law_437 : decode cL_law 437 = .ok (.iconst 0, 1) := by decide +kernel
theorem dL_law_438 : decode cL_law 438 = .ok (.ireturn, 1) := by decide +kernel
theorem dL_law_439 : decode cL_law 439 = .ok (.goto 655, 3) := by decide +kernel
theorem dL_law_442 : decode cL_law 442 = .ok (.aload_n 1, 1) := by decide +kernel
theorem dL_law_443 : decode cL_law 443 = .ok (.aload_n 0, 1) := by decide +kernel
theorem dL_law_444 : decode cL_law 444 = .ok (.iload 4, 2) := by decide +kernel
theorem dL_law_446 : decode cL_law 446 = .ok (.iconst 1, 1) := by decide +kernel
theorem dL_law_447 : decode cL_law 447 = .ok (.iadd, 1) := by decide +kernel
theorem dL_law_448 : decode cL_law 448 = .ok (.iaload, 1) := by decide +kernel
theorem dL_law_449 : decode cL_law 449 = .ok (.aload_n 0, 1) := by decide +kernel
theorem dL_law_450 : decode cL_law 450 = .ok (.iload 4, 2) := by decide +kernel
theorem dL_law_452 : decode cL_law 452 = .ok (.iconst 2, 1) := by decide +kernel
theorem dL_law_453 : decode cL_law 453 = .ok (.iadd, 1) := by decide +kernel
theorem dL_law_454 : decode cL_law 454 = .ok (.iaload, 1) := by decide +kernel
theorem dL_law_455 : decode cL_law 455 = .ok (.aload_n 3, 1) := by decide +kernel
theorem dL_law_456 : decode cL_law 456 = .ok (.invokestatic 92, 3) := by decide +kernel
theorem dL_law_459 : decode cL_law 459 = .ok (.istore 5, 2) := by decide +kernel
theorem dL_law_461 : decode cL_law 461 = .ok (.aload_n 2, 1) := by decide +kernel
theorem dL_law_462 : decode cL_law 462 = .ok (.aload_n 0, 1) := by decide +kernel
theorem dL_law_463 : decode cL_law 463 = .ok (.iload 4, 2) := by decide +kernel
theorem dL_law_465 : decode cL_law 465 = .ok (.iconst 1, 1) := by decide +kernel
theorem dL_law_466 : decode cL_law 466 = .ok (.iadd, 1) := by decide +kernel
theorem dL_law_467 : decode cL_law 467 = .ok (.iaload, 1) := by decide +kernel
theorem dL_law_468 : decode cL_law 468 = .ok (.aload_n 0, 1) := by decide +kernel
theorem dL_law_469 : decode cL_law 469 = .ok (.iload 4, 2) := by decide +kernel
theorem dL_law_471 : decode cL_law 471 = .ok (.iconst 2, 1) := by decide +kernel
theorem dL_law_472 : decode cL_law 472 = .ok (.iadd, 1) := by decide +kernel
theorem dL_law_473 : decode cL_law 473 = .ok (.iaload, 1) := by decide +kernel
theorem dL_law_474 : decode cL_law 474 = .ok (.invokevirtual 94, 3) := by decide +kernel
theorem dL_law_477 : decode cL_law 477 = .ok (.istore 6, 2) := by decide +kernel
theorem dL_law_479 : decode cL_law 479 = .ok (.aload_n 2, 1) := by decide +kernel
theorem dL_law_480 : decode cL_law 480 = .ok (.invokevirtual 70, 3) := by decide +kernel
theorem dL_law_483 : decode cL_law 483 = .ok (.iload 5, 2) := by decide +kernel
theorem dL_law_485 : decode cL_law 485 = .ok (.if_icmp .eq 5, 3) := by decide +kernel
theorem dL_law_488 : decode cL_law 488 = .ok (.iconst 0, 1) := by decide +kernel
theorem dL_law_489 : decode cL_law 489 = .ok (.ireturn, 1) := by decide +kernel
theorem dL_law_490 : decode cL_law 490 = .ok (.iload 5, 2) := by decide +kernel
theorem dL_law_492 : decode cL_law 492 = .ok (.ifCond .ne 15, 3) := by decide +kernel
theorem dL_law_495 : decode cL_law 495 = .ok (.aload_n 3, 1) := by decide +kernel
theorem dL_law_496 : decode cL_law 496 = .ok (.iconst 0, 1) := by decide +kernel
theorem dL_law_497 : decode cL_law 497 = .ok (.laload, 1) := by decide +kernel
theorem dL_law_498 : decode cL_law 498 = .ok (.iload 6, 2) := by decide +kernel
theorem dL_law_500 : decode cL_law 500 = .ok (.i2l, 1) := by decide +kernel
theorem dL_law_501 : decode cL_law 501 = .ok (.lcmp, 1) := by decide +kernel
theorem dL_law_502 : decode cL_law 502 = .ok (.ifCond .eq 5, 3) := by decide +kernel
theorem dL_law_505 : decode cL_law 505 = .ok (.iconst 0, 1) := by decide +kernel
theorem dL_law_506 : decode cL_law 506 = .ok (.ireturn, 1) := by decide +kernel
theorem dL_law_507 : decode cL_law 507 = .ok (.goto 587, 3) := by decide +kernel
theorem dL_law_510 : decode cL_law 510 = .ok (.aload_n 1, 1) := by decide +kernel
theorem dL_law_511 : decode cL_law 511 = .ok (.aload_n 0, 1) := by decide +kernel
theorem dL_law_512 : decode cL_law 512 = .ok (.iload 4, 2) := by decide +kernel
theorem dL_law_514 : decode cL_law 514 = .ok (.iconst 1, 1) := by decide +kernel
theorem dL_law_515 : decode cL_law 515 = .ok (.iadd, 1) := by decide +kernel
theorem dL_law_516 : decode cL_law 516 = .ok (.iaload, 1) := by decide +kernel
theorem dL_law_517 : decode cL_law 517 = .ok (.aload_n 3, 1) := by decide +kernel
theorem dL_law_518 : decode cL_law 518 = .ok (.invokestatic 95, 3) := by decide +kernel
theorem dL_law_521 : decode cL_law 521 = .ok (.istore 5, 2) := by decide +kernel
theorem dL_law_523 : decode cL_law 523 = .ok (.aload_n 2, 1) := by decide +kernel
theorem dL_law_524 : decode cL_law 524 = .ok (.aload_n 0, 1) := by decide +kernel
theorem dL_law_525 : decode cL_law 525 = .ok (.iload 4, 2) := by decide +kernel
theorem dL_law_527 : decode cL_law 527 = .ok (.iconst 1, 1) := by decide +kernel
theorem dL_law_528 : decode cL_law 528 = .ok (.iadd, 1) := by decide +kernel
theorem dL_law_529 : decode cL_law 529 = .ok (.iaload, 1) := by decide +kernel
theorem dL_law_530 : decode cL_law 530 = .ok (.invokevirtual 97, 3) := by decide +kernel
theorem dL_law_533 : decode cL_law 533 = .ok (.istore 6, 2) := by decide +kernel
theorem dL_law_535 : decode cL_law 535 = .ok (.aload_n 2, 1) := by decide +kernel
theorem dL_law_536 : decode cL_law 536 = .ok (.invokevirtual 70, 3) := by decide +kernel
theorem dL_law_539 : decode cL_law 539 = .ok (.iload 5, 2) := by decide +kernel
theorem dL_law_541 : decode cL_law 541 = .ok (.if_icmp .eq 5, 3) := by decide +kernel
theorem dL_law_544 : decode cL_law 544 = .ok (.iconst 0, 1) := by decide +kernel
theorem dL_law_545 : decode cL_law 545 = .ok (.ireturn, 1) := by decide +kernel
theorem dL_law_546 : decode cL_law 546 = .ok (.iload 5, 2) := by decide +kernel
theorem dL_law_548 : decode cL_law 548 = .ok (.ifCond .ne 15, 3) := by decide +kernel
theorem dL_law_551 : decode cL_law 551 = .ok (.aload_n 3, 1) := by decide +kernel
theorem dL_law_552 : decode cL_law 552 = .ok (.iconst 0, 1) := by decide +kernel
theorem dL_law_553 : decode cL_law 553 = .ok (.laload, 1) := by decide +kernel
theorem dL_law_554 : decode cL_law 554 = .ok (.iload 6, 2) := by decide +kernel
theorem dL_law_556 : decode cL_law 556 = .ok (.i2l, 1) := by decide +kernel
theorem dL_law_557 : decode cL_law 557 = .ok (.lcmp, 1) := by decide +kernel
theorem dL_law_558 : decode cL_law 558 = .ok (.ifCond .eq 5, 3) := by decide +kernel
theorem dL_law_561 : decode cL_law 561 = .ok (.iconst 0, 1) := by decide +kernel
theorem dL_law_562 : decode cL_law 562 = .ok (.ireturn, 1) := by decide +kernel
theorem dL_law_563 : decode cL_law 563 = .ok (.goto 531, 3) := by decide +kernel
theorem dL_law_566 : decode cL_law 566 = .ok (.aload_n 1, 1) := by decide +kernel
theorem dL_law_567 : decode cL_law 567 = .ok (.aload_n 0, 1) := by decide +kernel
theorem dL_law_568 : decode cL_law 568 = .ok (.iload 4, 2) := by decide +kernel
theorem dL_law_570 : decode cL_law 570 = .ok (.iconst 1, 1) := by decide +kernel
theorem dL_law_571 : decode cL_law 571 = .ok (.iadd, 1) := by decide +kernel
theorem dL_law_572 : decode cL_law 572 = .ok (.iaload, 1) := by decide +kernel
theorem dL_law_573 : decode cL_law 573 = .ok (.aload_n 0, 1) := by decide +kernel
theorem dL_law_574 : decode cL_law 574 = .ok (.iload 4, 2) := by decide +kernel
theorem dL_law_576 : decode cL_law 576 = .ok (.iconst 2, 1) := by decide +kernel
theorem dL_law_577 : decode cL_law 577 = .ok (.iadd, 1) := by decide +kernel
theorem dL_law_578 : decode cL_law 578 = .ok (.iaload, 1) := by decide +kernel
theorem dL_law_579 : decode cL_law 579 = .ok (.aload_n 0, 1) := by decide +kernel
theorem dL_law_580 : decode cL_law 580 = .ok (.iload 4, 2) := by decide +kernel
theorem dL_law_582 : decode cL_law 582 = .ok (.iconst 3, 1) := by decide +kernel
theorem dL_law_583 : decode cL_law 583 = .ok (.iadd, 1) := by decide +kernel
theorem dL_law_584 : decode cL_law 584 = .ok (.iaload, 1) := by decide +kernel
theorem dL_law_585 : decode cL_law 585 = .ok (.aload_n 3, 1) := by decide +kernel
theorem dL_law_586 : decode cL_law 586 = .ok (.invokestatic 98, 3) := by decide +kernel
theorem dL_law_589 : decode cL_law 589 = .ok (.istore 5, 2) := by decide +kernel
theorem dL_law_591 : decode cL_law 591 = .ok (.aload_n 2, 1) := by decide +kernel
theorem dL_law_592 : decode cL_law 592 = .ok (.aload_n 0, 1) := by decide +kernel
theorem dL_law_593 : decode cL_law 593 = .ok (.iload 4, 2) := by decide +kernel
theorem dL_law_595 : decode cL_law 595 = .ok (.iconst 1, 1) := by decide +kernel
theorem dL_law_596 : decode cL_law 596 = .ok (.iadd, 1) := by decide +kernel
theorem dL_law_597 : decode cL_law 597 = .ok (.iaload, 1) := by decide +kernel
theorem dL_law_598 : decode cL_law 598 = .ok (.aload_n 0, 1) := by decide +kernel
theorem dL_law_599 : decode cL_law 599 = .ok (.iload 4, 2) := by decide +kernel
theorem dL_law_601 : decode cL_law 601 = .ok (.iconst 2, 1) := by decide +kernel
theorem dL_law_602 : decode cL_law 602 = .ok (.iadd, 1) := by decide +kernel
theorem dL_law_603 : decode cL_law 603 = .ok (.iaload, 1) := by decide +kernel
theorem dL_law_604 : decode cL_law 604 = .ok (.aload_n 0, 1) := by decide +kernel
theorem dL_law_605 : decode cL_law 605 = .ok (.iload 4, 2) := by decide +kernel
theorem dL_law_607 : decode cL_law 607 = .ok (.iconst 3, 1) := by decide +kernel
theorem dL_law_608 : decode cL_law 608 = .ok (.iadd, 1) := by decide +kernel
theorem dL_law_609 : decode cL_law 609 = .ok (.iaload, 1) := by decide +kernel
theorem dL_law_610 : decode cL_law 610 = .ok (.invokevirtual 101, 3) := by decide +kernel
theorem dL_law_613 : decode cL_law 613 = .ok (.istore 6, 2) := by decide +kernel
theorem dL_law_615 : decode cL_law 615 = .ok (.aload_n 2, 1) := by decide +kernel
theorem dL_law_616 : decode cL_law 616 = .ok (.invokevirtual 70, 3) := by decide +kernel
theorem dL_law_619 : decode cL_law 619 = .ok (.iload 5, 2) := by decide +kernel
theorem dL_law_621 : decode cL_law 621 = .ok (.if_icmp .eq 5, 3) := by decide +kernel
theorem dL_law_624 : decode cL_law 624 = .ok (.iconst 0, 1) := by decide +kernel
theorem dL_law_625 : decode cL_law 625 = .ok (.ireturn, 1) := by decide +kernel
theorem dL_law_626 : decode cL_law 626 = .ok (.iload 5, 2) := by decide +kernel
theorem dL_law_628 : decode cL_law 628 = .ok (.ifCond .ne 15, 3) := by decide +kernel
theorem dL_law_631 : decode cL_law 631 = .ok (.aload_n 3, 1) := by decide +kernel
theorem dL_law_632 : decode cL_law 632 = .ok (.iconst 0, 1) := by decide +kernel
theorem dL_law_633 : decode cL_law 633 = .ok (.laload, 1) := by decide +kernel
theorem dL_law_634 : decode cL_law 634 = .ok (.iload 6, 2) := by decide +kernel
theorem dL_law_636 : decode cL_law 636 = .ok (.i2l, 1) := by decide +kernel
theorem dL_law_637 : decode cL_law 637 = .ok (.lcmp, 1) := by decide +kernel
theorem dL_law_638 : decode cL_law 638 = .ok (.ifCond .eq 5, 3) := by decide +kernel
theorem dL_law_641 : decode cL_law 641 = .ok (.iconst 0, 1) := by decide +kernel
theorem dL_law_642 : decode cL_law 642 = .ok (.ireturn, 1) := by decide +kernel
theorem dL_law_643 : decode cL_law 643 = .ok (.goto 451, 3) := by decide +kernel
theorem dL_law_646 : decode cL_law 646 = .ok (.aload_n 1, 1) := by decide +kernel
theorem dL_law_647 : decode cL_law 647 = .ok (.aload_n 0, 1) := by decide +kernel
theorem dL_law_648 : decode cL_law 648 = .ok (.iload 4, 2) := by decide +kernel
theorem dL_law_650 : decode cL_law 650 = .ok (.iconst 1, 1) := by decide +kernel
theorem dL_law_651 : decode cL_law 651 = .ok (.iadd, 1) := by decide +kernel
theorem dL_law_652 : decode cL_law 652 = .ok (.iaload, 1) := by decide +kernel
theorem dL_law_653 : decode cL_law 653 = .ok (.aload_n 0, 1) := by decide +kernel
theorem dL_law_654 : decode cL_law 654 = .ok (.iload 4, 2) := by decide +kernel
theorem dL_law_656 : decode cL_law 656 = .ok (.iconst 2, 1) := by decide +kernel
theorem dL_law_657 : decode cL_law 657 = .ok (.iadd, 1) := by decide +kernel
theorem dL_law_658 : decode cL_law 658 = .ok (.iaload, 1) := by decide +kernel
theorem dL_law_659 : decode cL_law 659 = .ok (.aload_n 3, 1) := by decide +kernel
theorem dL_law_660 : decode cL_law 660 = .ok (.invokestatic 102, 3) := by decide +kernel
theorem dL_law_663 : decode cL_law 663 = .ok (.istore 5, 2) := by decide +kernel
theorem dL_law_665 : decode cL_law 665 = .ok (.aload_n 2, 1) := by decide +kernel
theorem dL_law_666 : decode cL_law 666 = .ok (.aload_n 0, 1) := by decide +kernel
theorem dL_law_667 : decode cL_law 667 = .ok (.iload 4, 2) := by decide +kernel
theorem dL_law_669 : decode cL_law 669 = .ok (.iconst 1, 1) := by decide +kernel
theorem dL_law_670 : decode cL_law 670 = .ok (.iadd, 1) := by decide +kernel
theorem dL_law_671 : decode cL_law 671 = .ok (.iaload, 1) := by decide +kernel
theorem dL_law_672 : decode cL_law 672 = .ok (.aload_n 0, 1) := by decide +kernel
theorem dL_law_673 : decode cL_law 673 = .ok (.iload 4, 2) := by decide +kernel
theorem dL_law_675 : decode cL_law 675 = .ok (.iconst 2, 1) := by decide +kernel
theorem dL_law_676 : decode cL_law 676 = .ok (.iadd, 1) := by decide +kernel
theorem dL_law_677 : decode cL_law 677 = .ok (.iaload, 1) := by decide +kernel
theorem dL_law_678 : decode cL_law 678 = .ok (.invokevirtual 104, 3) := by decide +kernel
theorem dL_law_681 : decode cL_law 681 = .ok (.istore 6, 2) := by decide +kernel
theorem dL_law_683 : decode cL_law 683 = .ok (.aload_n 2, 1) := by decide +kernel
theorem dL_law_684 : decode cL_law 684 = .ok (.invokevirtual 70, 3) := by decide +kernel
theorem dL_law_687 : decode cL_law 687 = .ok (.iload 5, 2) := by decide +kernel
theorem dL_law_689 : decode cL_law 689 = .ok (.if_icmp .eq 5, 3) := by decide +kernel
theorem dL_law_692 : decode cL_law 692 = .ok (.iconst 0, 1) := by decide +kernel
theorem dL_law_693 : decode cL_law 693 = .ok (.ireturn, 1) := by decide +kernel
theorem dL_law_694 : decode cL_law 694 = .ok (.iload 5, 2) := by decide +kernel
theorem dL_law_696 : decode cL_law 696 = .ok (.ifCond .ne 22, 3) := by decide +kernel
theorem dL_law_699 : decode cL_law 699 = .ok (.aload_n 3, 1) := by decide +kernel
theorem dL_law_700 : decode cL_law 700 = .ok (.iconst 0, 1) := by decide +kernel
theorem dL_law_701 : decode cL_law 701 = .ok (.laload, 1) := by decide +kernel
theorem dL_law_702 : decode cL_law 702 = .ok (.iload 6, 2) := by decide +kernel
theorem dL_law_704 : decode cL_law 704 = .ok (.ifCond .eq 7, 3) := by decide +kernel
theorem dL_law_707 : decode cL_law 707 = .ok (.lconst 1, 1) := by decide +kernel
theorem dL_law_708 : decode cL_law 708 = .ok (.goto 4, 3) := by decide +kernel
theorem dL_law_711 : decode cL_law 711 = .ok (.lconst 0, 1) := by decide +kernel
theorem dL_law_712 : decode cL_law 712 = .ok (.lcmp, 1) := by decide +kernel
theorem dL_law_713 : decode cL_law 713 = .ok (.ifCond .eq 5, 3) := by decide +kernel
theorem dL_law_716 : decode cL_law 716 = .ok (.iconst 0, 1) := by decide +kernel
theorem dL_law_717 : decode cL_law 717 = .ok (.ireturn, 1) := by decide +kernel
theorem dL_law_718 : decode cL_law 718 = .ok (.goto 376, 3) := by decide +kernel
theorem dL_law_721 : decode cL_law 721 = .ok (.aload_n 1, 1) := by decide +kernel
theorem dL_law_722 : decode cL_law 722 = .ok (.aload_n 0, 1) := by decide +kernel
theorem dL_law_723 : decode cL_law 723 = .ok (.iload 4, 2) := by decide +kernel
theorem dL_law_725 : decode cL_law 725 = .ok (.iconst 1, 1) := by decide +kernel
theorem dL_law_726 : decode cL_law 726 = .ok (.iadd, 1) := by decide +kernel
theorem dL_law_727 : decode cL_law 727 = .ok (.iaload, 1) := by decide +kernel
theorem dL_law_728 : decode cL_law 728 = .ok (.aload_n 3, 1) := by decide +kernel
theorem dL_law_729 : decode cL_law 729 = .ok (.invokestatic 105, 3) := by decide +kernel
theorem dL_law_732 : decode cL_law 732 = .ok (.istore 5, 2) := by decide +kernel
theorem dL_law_734 : decode cL_law 734 = .ok (.aload_n 2, 1) := by decide +kernel
theorem dL_law_735 : decode cL_law 735 = .ok (.aload_n 0, 1) := by decide +kernel
theorem dL_law_736 : decode cL_law 736 = .ok (.iload 4, 2) := by decide +kernel
theorem dL_law_738 : decode cL_law 738 = .ok (.iconst 1, 1) := by decide +kernel
theorem dL_law_739 : decode cL_law 739 = .ok (.iadd, 1) := by decide +kernel
theorem dL_law_740 : decode cL_law 740 = .ok (.iaload, 1) := by decide +kernel
theorem dL_law_741 : decode cL_law 741 = .ok (.invokevirtual 107, 3) := by decide +kernel
theorem dL_law_744 : decode cL_law 744 = .ok (.istore 6, 2) := by decide +kernel
theorem dL_law_746 : decode cL_law 746 = .ok (.aload_n 2, 1) := by decide +kernel
theorem dL_law_747 : decode cL_law 747 = .ok (.invokevirtual 70, 3) := by decide +kernel
theorem dL_law_750 : decode cL_law 750 = .ok (.iload 5, 2) := by decide +kernel
theorem dL_law_752 : decode cL_law 752 = .ok (.if_icmp .eq 5, 3) := by decide +kernel
theorem dL_law_755 : decode cL_law 755 = .ok (.iconst 0, 1) := by decide +kernel
theorem dL_law_756 : decode cL_law 756 = .ok (.ireturn, 1) := by decide +kernel
theorem dL_law_757 : decode cL_law 757 = .ok (.iload 5, 2) := by decide +kernel
theorem dL_law_759 : decode cL_law 759 = .ok (.ifCond .ne 15, 3) := by decide +kernel
theorem dL_law_762 : decode cL_law 762 = .ok (.aload_n 3, 1) := by decide +kernel
theorem dL_law_763 : decode cL_law 763 = .ok (.iconst 0, 1) := by decide +kernel
theorem dL_law_764 : decode cL_law 764 = .ok (.laload, 1) := by decide +kernel
theorem dL_law_765 : decode cL_law 765 = .ok (.iload 6, 2) := by decide +kernel
theorem dL_law_767 : decode cL_law 767 = .ok (.i2l, 1) := by decide +kernel
theorem dL_law_768 : decode cL_law 768 = .ok (.lcmp, 1) := by decide +kernel
theorem dL_law_769 : decode cL_law 769 = .ok (.ifCond .eq 5, 3) := by decide +kernel
theorem dL_law_772 : decode cL_law 772 = .ok (.iconst 0, 1) := by decide +kernel
theorem dL_law_773 : decode cL_law 773 = .ok (.ireturn, 1) := by decide +kernel
theorem dL_law_774 : decode cL_law 774 = .ok (.goto 320, 3) := by decide +kernel
theorem dL_law_777 : decode cL_law 777 = .ok (.aload_n 1, 1) := by decide +kernel
theorem dL_law_778 : decode cL_law 778 = .ok (.aload_n 0, 1) := by decide +kernel
theorem dL_law_779 : decode cL_law 779 = .ok (.iload 4, 2) := by decide +kernel
theorem dL_law_781 : decode cL_law 781 = .ok (.iconst 1, 1) := by decide +kernel
theorem dL_law_782 : decode cL_law 782 = .ok (.iadd, 1) := by decide +kernel
theorem dL_law_783 : decode cL_law 783 = .ok (.iaload, 1) := by decide +kernel
theorem dL_law_784 : decode cL_law 784 = .ok (.aload_n 0, 1) := by decide +kernel
theorem dL_law_785 : decode cL_law 785 = .ok (.iload 4, 2) := by decide +kernel
theorem dL_law_787 : decode cL_law 787 = .ok (.iconst 2, 1) := by decide +kernel
theorem dL_law_788 : decode cL_law 788 = .ok (.iadd, 1) := by decide +kernel
theorem dL_law_789 : decode cL_law 789 = .ok (.iaload, 1) := by decide +kernel
theorem dL_law_790 : decode cL_law 790 = .ok (.aload_n 0, 1) := by decide +kernel
theorem dL_law_791 : decode cL_law 791 = .ok (.iload 4, 2) := by decide +kernel
theorem dL_law_793 : decode cL_law 793 = .ok (.iconst 3, 1) := by decide +kernel
theorem dL_law_794 : decode cL_law 794 = .ok (.iadd, 1) := by decide +kernel
theorem dL_law_795 : decode cL_law 795 = .ok (.iaload, 1) := by decide +kernel
theorem dL_law_796 : decode cL_law 796 = .ok (.aload_n 3, 1) := by decide +kernel
theorem dL_law_797 : decode cL_law 797 = .ok (.invokestatic 108, 3) := by decide +kernel
theorem dL_law_800 : decode cL_law 800 = .ok (.istore 5, 2) := by decide +kernel
theorem dL_law_802 : decode cL_law 802 = .ok (.aload_n 2, 1) := by decide +kernel
theorem dL_law_803 : decode cL_law 803 = .ok (.aload_n 0, 1) := by decide +kernel
theorem dL_law_804 : decode cL_law 804 = .ok (.iload 4, 2) := by decide +kernel
theorem dL_law_806 : decode cL_law 806 = .ok (.iconst 1, 1) := by decide +kernel
theorem dL_law_807 : decode cL_law 807 = .ok (.iadd, 1) := by decide +kernel
theorem dL_law_808 : decode cL_law 808 = .ok (.iaload, 1) := by decide +kernel
theorem dL_law_809 : decode cL_law 809 = .ok (.aload_n 0, 1) := by decide +kernel
theorem dL_law_810 : decode cL_law 810 = .ok (.iload 4, 2) := by decide +kernel
theorem dL_law_812 : decode cL_law 812 = .ok (.iconst 2, 1) := by decide +kernel
theorem dL_law_813 : decode cL_law 813 = .ok (.iadd, 1) := by decide +kernel
theorem dL_law_814 : decode cL_law 814 = .ok (.iaload, 1) := by decide +kernel
theorem dL_law_815 : decode cL_law 815 = .ok (.aload_n 0, 1) := by decide +kernel
theorem dL_law_816 : decode cL_law 816 = .ok (.iload 4, 2) := by decide +kernel
theorem dL_law_818 : decode cL_law 818 = .ok (.iconst 3, 1) := by decide +kernel
theorem dL_law_819 : decode cL_law 819 = .ok (.iadd, 1) := by decide +kernel
theorem dL_law_820 : decode cL_law 820 = .ok (.iaload, 1) := by decide +kernel
theorem dL_law_821 : decode cL_law 821 = .ok (.invokevirtual 110, 3) := by decide +kernel
theorem dL_law_824 : decode cL_law 824 = .ok (.istore 6, 2) := by decide +kernel
theorem dL_law_826 : decode cL_law 826 = .ok (.aload_n 2, 1) := by decide +kernel
theorem dL_law_827 : decode cL_law 827 = .ok (.invokevirtual 70, 3) := by decide +kernel
theorem dL_law_830 : decode cL_law 830 = .ok (.iload 5, 2) := by decide +kernel
theorem dL_law_832 : decode cL_law 832 = .ok (.if_icmp .eq 5, 3) := by decide +kernel
theorem dL_law_835 : decode cL_law 835 = .ok (.iconst 0, 1) := by decide +kernel
theorem dL_law_836 : decode cL_law 836 = .ok (.ireturn, 1) := by decide +kernel
theorem dL_law_837 : decode cL_law 837 = .ok (.iload 5, 2) := by decide +kernel
theorem dL_law_839 : decode cL_law 839 = .ok (.ifCond .ne 15, 3) := by decide +kernel
theorem dL_law_842 : decode cL_law 842 = .ok (.aload_n 3, 1) := by decide +kernel
theorem dL_law_843 : decode cL_law 843 = .ok (.iconst 0, 1) := by decide +kernel
theorem dL_law_844 : decode cL_law 844 = .ok (.laload, 1) := by decide +kernel
theorem dL_law_845 : decode cL_law 845 = .ok (.iload 6, 2) := by decide +kernel
theorem dL_law_847 : decode cL_law 847 = .ok (.i2l, 1) := by decide +kernel
theorem dL_law_848 : decode cL_law 848 = .ok (.lcmp, 1) := by decide +kernel
theorem dL_law_849 : decode cL_law 849 = .ok (.ifCond .eq 5, 3) := by decide +kernel
theorem dL_law_852 : decode cL_law 852 = .ok (.iconst 0, 1) := by decide +kernel
theorem dL_law_853 : decode cL_law 853 = .ok (.ireturn, 1) := by decide +kernel
theorem dL_law_854 : decode cL_law 854 = .ok (.goto 240, 3) := by decide +kernel
theorem dL_law_857 : decode cL_law 857 = .ok (.aload_n 1, 1) := by decide +kernel
theorem dL_law_858 : decode cL_law 858 = .ok (.aload_n 3, 1) := by decide +kernel
theorem dL_law_859 : decode cL_law 859 = .ok (.invokestatic 111, 3) := by decide +kernel
theorem dL_law_862 : decode cL_law 862 = .ok (.istore 5, 2) := by decide +kernel
theorem dL_law_864 : decode cL_law 864 = .ok (.aload_n 2, 1) := by decide +kernel
theorem dL_law_865 : decode cL_law 865 = .ok (.invokevirtual 114, 3) := by decide +kernel
theorem dL_law_868 : decode cL_law 868 = .ok (.istore 6, 2) := by decide +kernel
theorem dL_law_870 : decode cL_law 870 = .ok (.aload_n 2, 1) := by decide +kernel
theorem dL_law_871 : decode cL_law 871 = .ok (.invokevirtual 70, 3) := by decide +kernel
theorem dL_law_874 : decode cL_law 874 = .ok (.iload 5, 2) := by decide +kernel
theorem dL_law_876 : decode cL_law 876 = .ok (.if_icmp .eq 5, 3) := by decide +kernel
theorem dL_law_879 : decode cL_law 879 = .ok (.iconst 0, 1) := by decide +kernel
theorem dL_law_880 : decode cL_law 880 = .ok (.ireturn, 1) := by decide +kernel
theorem dL_law_881 : decode cL_law 881 = .ok (.iload 5, 2) := by decide +kernel
theorem dL_law_883 : decode cL_law 883 = .ok (.ifCond .ne 15, 3) := by decide +kernel
theorem dL_law_886 : decode cL_law 886 = .ok (.aload_n 3, 1) := by decide +kernel
theorem dL_law_887 : decode cL_law 887 = .ok (.iconst 0, 1) := by decide +kernel
theorem dL_law_888 : decode cL_law 888 = .ok (.laload, 1) := by decide +kernel
theorem dL_law_889 : decode cL_law 889 = .ok (.iload 6, 2) := by decide +kernel
theorem dL_law_891 : decode cL_law 891 = .ok (.i2l, 1) := by decide +kernel
theorem dL_law_892 : decode cL_law 892 = .ok (.lcmp, 1) := by decide +kernel
theorem dL_law_893 : decode cL_law 893 = .ok (.ifCond .eq 5, 3) := by decide +kernel
theorem dL_law_896 : decode cL_law 896 = .ok (.iconst 0, 1) := by decide +kernel
theorem dL_law_897 : decode cL_law 897 = .ok (.ireturn, 1) := by decide +kernel
theorem dL_law_898 : decode cL_law 898 = .ok (.goto 196, 3) := by decide +kernel
theorem dL_law_901 : decode cL_law 901 = .ok (.aload_n 1, 1) := by decide +kernel
theorem dL_law_902 : decode cL_law 902 = .ok (.aload_n 0, 1) := by decide +kernel
theorem dL_law_903 : decode cL_law 903 = .ok (.iload 4, 2) := by decide +kernel
theorem dL_law_905 : decode cL_law 905 = .ok (.iconst 1, 1) := by decide +kernel
theorem dL_law_906 : decode cL_law 906 = .ok (.iadd, 1) := by decide +kernel
theorem dL_law_907 : decode cL_law 907 = .ok (.iaload, 1) := by decide +kernel
theorem dL_law_908 : decode cL_law 908 = .ok (.aload_n 3, 1) := by decide +kernel
theorem dL_law_909 : decode cL_law 909 = .ok (.invokestatic 115, 3) := by decide +kernel
theorem dL_law_912 : decode cL_law 912 = .ok (.istore 5, 2) := by decide +kernel
theorem dL_law_914 : decode cL_law 914 = .ok (.aload_n 2, 1) := by decide +kernel
theorem dL_law_915 : decode cL_law 915 = .ok (.aload_n 0, 1) := by decide +kernel
theorem dL_law_916 : decode cL_law 916 = .ok (.iload 4, 2) := by decide +kernel
theorem dL_law_918 : decode cL_law 918 = .ok (.iconst 1, 1) := by decide +kernel
theorem dL_law_919 : decode cL_law 919 = .ok (.iadd, 1) := by decide +kernel
theorem dL_law_920 : decode cL_law 920 = .ok (.iaload, 1) := by decide +kernel
theorem dL_law_921 : decode cL_law 921 = .ok (.invokevirtual 117, 3) := by decide +kernel
theorem dL_law_924 : decode cL_law 924 = .ok (.istore 6, 2) := by decide +kernel
theorem dL_law_926 : decode cL_law 926 = .ok (.aload_n 2, 1) := by decide +kernel
theorem dL_law_927 : decode cL_law 927 = .ok (.invokevirtual 70, 3) := by decide +kernel
theorem dL_law_930 : decode cL_law 930 = .ok (.iload 5, 2) := by decide +kernel
theorem dL_law_932 : decode cL_law 932 = .ok (.if_icmp .eq 5, 3) := by decide +kernel
theorem dL_law_935 : decode cL_law 935 = .ok (.iconst 0, 1) := by decide +kernel
theorem dL_law_936 : decode cL_law 936 = .ok (.ireturn, 1) := by decide +kernel
theorem dL_law_937 : decode cL_law 937 = .ok (.iload 5, 2) := by decide +kernel
theorem dL_law_939 : decode cL_law 939 = .ok (.ifCond .ne 15, 3) := by decide +kernel
theorem dL_law_942 : decode cL_law 942 = .ok (.aload_n 3, 1) := by decide +kernel
theorem dL_law_943 : decode cL_law 943 = .ok (.iconst 0, 1) := by decide +kernel
theorem dL_law_944 : decode cL_law 944 = .ok (.laload, 1) := by decide +kernel
theorem dL_law_945 : decode cL_law 945 = .ok (.iload 6, 2) := by decide +kernel
theorem dL_law_947 : decode cL_law 947 = .ok (.i2l, 1) := by decide +kernel
theorem dL_law_948 : decode cL_law 948 = .ok (.lcmp, 1) := by decide +kernel
theorem dL_law_949 : decode cL_law 949 = .ok (.ifCond .eq 5, 3) := by decide +kernel
theorem dL_law_952 : decode cL_law 952 = .ok (.iconst 0, 1) := by decide +kernel
theorem dL_law_953 : decode cL_law 953 = .ok (.ireturn, 1) := by decide +kernel
theorem dL_law_954 : decode cL_law 954 = .ok (.goto 140, 3) := by decide +kernel
theorem dL_law_957 : decode cL_law 957 = .ok (.aload_n 1, 1) := by decide +kernel
theorem dL_law_958 : decode cL_law 958 = .ok (.invokevirtual 118, 3) := by decide +kernel
theorem dL_law_961 : decode cL_law 961 = .ok (.aload_n 2, 1) := by decide +kernel
theorem dL_law_962 : decode cL_law 962 = .ok (.invokevirtual 121, 3) := by decide +kernel
theorem dL_law_965 : decode cL_law 965 = .ok (.if_icmp .eq 129, 3) := by decide +kernel
theorem dL_law_968 : decode cL_law 968 = .ok (.iconst 0, 1) := by decide +kernel
theorem dL_law_969 : decode cL_law 969 = .ok (.ireturn, 1) := by decide +kernel
theorem dL_law_970 : decode cL_law 970 = .ok (.aload_n 1, 1) := by decide +kernel
theorem dL_law_971 : decode cL_law 971 = .ok (.invokevirtual 122, 3) := by decide +kernel
theorem dL_law_974 : decode cL_law 974 = .ok (.aload_n 2, 1) := by decide +kernel
theorem dL_law_975 : decode cL_law 975 = .ok (.invokevirtual 125, 3) := by decide +kernel
theorem dL_law_978 : decode cL_law 978 = .ok (.if_icmp .eq 116, 3) := by decide +kernel
theorem dL_law_981 : decode cL_law 981 = .ok (.iconst 0, 1) := by decide +kernel
theorem dL_law_982 : decode cL_law 982 = .ok (.ireturn, 1) := by decide +kernel
theorem dL_law_983 : decode cL_law 983 = .ok (.aload_n 1, 1) := by decide +kernel
theorem dL_law_984 : decode cL_law 984 = .ok (.aload_n 0, 1) := by decide +kernel
theorem dL_law_985 : decode cL_law 985 = .ok (.iload 4, 2) := by decide +kernel
theorem dL_law_987 : decode cL_law 987 = .ok (.iconst 1, 1) := by decide +kernel
theorem dL_law_988 : decode cL_law 988 = .ok (.iadd, 1) := by decide +kernel
theorem dL_law_989 : decode cL_law 989 = .ok (.iaload, 1) := by decide +kernel
theorem dL_law_990 : decode cL_law 990 = .ok (.aload_n 3, 1) := by decide +kernel
theorem dL_law_991 : decode cL_law 991 = .ok (.invokestatic 126, 3) := by decide +kernel
theorem dL_law_994 : decode cL_law 994 = .ok (.istore 5, 2) := by decide +kernel
theorem dL_law_996 : decode cL_law 996 = .ok (.aload_n 2, 1) := by decide +kernel
theorem dL_law_997 : decode cL_law 997 = .ok (.aload_n 0, 1) := by decide +kernel
theorem dL_law_998 : decode cL_law 998 = .ok (.iload 4, 2) := by decide +kernel
theorem dL_law_1000 : decode cL_law 1000 = .ok (.iconst 1, 1) := by decide +kernel
theorem dL_law_1001 : decode cL_law 1001 = .ok (.iadd, 1) := by decide +kernel
theorem dL_law_1002 : decode cL_law 1002 = .ok (.iaload, 1) := by decide +kernel
theorem dL_law_1003 : decode cL_law 1003 = .ok (.invokevirtual 128, 3) := by decide +kernel
theorem dL_law_1006 : decode cL_law 1006 = .ok (.istore 6, 2) := by decide +kernel
theorem dL_law_1008 : decode cL_law 1008 = .ok (.aload_n 2, 1) := by decide +kernel
theorem dL_law_1009 : decode cL_law 1009 = .ok (.invokevirtual 70, 3) := by decide +kernel
theorem dL_law_1012 : decode cL_law 1012 = .ok (.iload 5, 2) := by decide +kernel
theorem dL_law_1014 : decode cL_law 1014 = .ok (.if_icmp .eq 5, 3) := by decide +kernel
theorem dL_law_1017 : decode cL_law 1017 = .ok (.iconst 0, 1) := by decide +kernel
theorem dL_law_1018 : decode cL_law 1018 = .ok (.ireturn, 1) := by decide +kernel
theorem dL_law_1019 : decode cL_law 1019 = .ok (.iload 5, 2) := by decide +kernel
theorem dL_law_1021 : decode cL_law 1021 = .ok (.ifCond .ne 15, 3) := by decide +kernel
theorem dL_law_1024 : decode cL_law 1024 = .ok (.aload_n 3, 1) := by decide +kernel
theorem dL_law_1025 : decode cL_law 1025 = .ok (.iconst 0, 1) := by decide +kernel
theorem dL_law_1026 : decode cL_law 1026 = .ok (.laload, 1) := by decide +kernel
theorem dL_law_1027 : decode cL_law 1027 = .ok (.iload 6, 2) := by decide +kernel
theorem dL_law_1029 : decode cL_law 1029 = .ok (.i2l, 1) := by decide +kernel
theorem dL_law_1030 : decode cL_law 1030 = .ok (.lcmp, 1) := by decide +kernel
theorem dL_law_1031 : decode cL_law 1031 = .ok (.ifCond .eq 5, 3) := by decide +kernel
theorem dL_law_1034 : decode cL_law 1034 = .ok (.iconst 0, 1) := by decide +kernel
theorem dL_law_1035 : decode cL_law 1035 = .ok (.ireturn, 1) := by decide +kernel
theorem dL_law_1036 : decode cL_law 1036 = .ok (.goto 58, 3) := by decide +kernel
theorem dL_law_1039 : decode cL_law 1039 = .ok (.aload_n 1, 1) := by decide +kernel
theorem dL_law_1040 : decode cL_law 1040 = .ok (.invokevirtual 129, 3) := by decide +kernel
theorem dL_law_1043 : decode cL_law 1043 = .ok (.dstore 5, 2) := by decide +kernel
theorem dL_law_1045 : decode cL_law 1045 = .ok (.aload_n 2, 1) := by decide +kernel
theorem dL_law_1046 : decode cL_law 1046 = .ok (.invokevirtual 133, 3) := by decide +kernel
theorem dL_law_1049 : decode cL_law 1049 = .ok (.dstore 7, 2) := by decide +kernel
theorem dL_law_1051 : decode cL_law 1051 = .ok (.dload 5, 2) := by decide +kernel
theorem dL_law_1053 : decode cL_law 1053 = .ok (.dload 7, 2) := by decide +kernel
theorem dL_law_1055 : decode cL_law 1055 = .ok (.dcmp .l, 1) := by decide +kernel
theorem dL_law_1056 : decode cL_law 1056 = .ok (.ifCond .eq 21, 3) := by decide +kernel
theorem dL_law_1059 : decode cL_law 1059 = .ok (.dload 5, 2) := by decide +kernel
theorem dL_law_1061 : decode cL_law 1061 = .ok (.dload 5, 2) := by decide +kernel
theorem dL_law_1063 : decode cL_law 1063 = .ok (.dcmp .l, 1) := by decide +kernel
theorem dL_law_1064 : decode cL_law 1064 = .ok (.ifCond .eq 11, 3) := by decide +kernel
theorem dL_law_1067 : decode cL_law 1067 = .ok (.dload 7, 2) := by decide +kernel
theorem dL_law_1069 : decode cL_law 1069 = .ok (.dload 7, 2) := by decide +kernel
theorem dL_law_1071 : decode cL_law 1071 = .ok (.dcmp .l, 1) := by decide +kernel
theorem dL_law_1072 : decode cL_law 1072 = .ok (.ifCond .ne 5, 3) := by decide +kernel
theorem dL_law_1075 : decode cL_law 1075 = .ok (.iconst 0, 1) := by decide +kernel
theorem dL_law_1076 : decode cL_law 1076 = .ok (.ireturn, 1) := by decide +kernel
theorem dL_law_1077 : decode cL_law 1077 = .ok (.goto 17, 3) := by decide +kernel
theorem dL_law_1080 : decode cL_law 1080 = .ok (.aload_n 1, 1) := by decide +kernel
theorem dL_law_1081 : decode cL_law 1081 = .ok (.invokevirtual 134, 3) := by decide +kernel
theorem dL_law_1084 : decode cL_law 1084 = .ok (.aload_n 2, 1) := by decide +kernel
theorem dL_law_1085 : decode cL_law 1085 = .ok (.invokevirtual 138, 3) := by decide +kernel
theorem dL_law_1088 : decode cL_law 1088 = .ok (.lcmp, 1) := by decide +kernel
theorem dL_law_1089 : decode cL_law 1089 = .ok (.ifCond .eq 5, 3) := by decide +kernel
theorem dL_law_1092 : decode cL_law 1092 = .ok (.iconst 0, 1) := by decide +kernel
theorem dL_law_1093 : decode cL_law 1093 = .ok (.ireturn, 1) := by decide +kernel
theorem dL_law_1094 : decode cL_law 1094 = .ok (.iinc 4 6, 3) := by decide +kernel
theorem dL_law_1097 : decode cL_law 1097 = .ok (.goto (-1074), 3) := by decide +kernel
theorem dL_law_1100 : decode cL_law 1100 = .ok (.iconst 1, 1) := by decide +kernel
theorem dL_law_1101 : decode cL_law 1101 = .ok (.ireturn, 1) := by decide +kernel
