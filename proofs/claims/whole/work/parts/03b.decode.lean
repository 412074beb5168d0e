-- printed by wip/whole/gen1.py
theorem dX8_addAnswer_40 : decode cX8_addAnswer 40 = .ok (.getfield 15, 3) := by decide +kernel
theorem dX8_addAnswer_43 : decode cX8_addAnswer 43 = .ok (.aload_n 0, 1) := by decide +kernel
theorem dX8_addAnswer_44 : decode cX8_addAnswer 44 = .ok (.getfield 46, 3) := by decide +kernel
theorem dX8_addAnswer_47 : decode cX8_addAnswer 47 = .ok (.iload_n 1, 1) := by decide +kernel
theorem dX8_addAnswer_48 : decode cX8_addAnswer 48 = .ok (.iastore, 1) := by decide +kernel
theorem dX8_addAnswer_49 : decode cX8_addAnswer 49 = .ok (.aload_n 0, 1) := by decide +kernel
theorem dX8_addAnswer_50 : decode cX8_addAnswer 50 = .ok (.getfield 18, 3) := by decide +kernel
theorem dX8_addAnswer_53 : decode cX8_addAnswer 53 = .ok (.aload_n 0, 1) := by decide +kernel
theorem dX8_addAnswer_54 : decode cX8_addAnswer 54 = .ok (.getfield 46, 3) := by decide +kernel
theorem dX8_addAnswer_57 : decode cX8_addAnswer 57 = .ok (.iconst 0, 1) := by decide +kernel
theorem dX8_addAnswer_58 : decode cX8_addAnswer 58 = .ok (.iastore, 1) := by decide +kernel
theorem dX8_addAnswer_59 : decode cX8_addAnswer 59 = .ok (.aload_n 0, 1) := by decide +kernel
theorem dX8_addAnswer_60 : decode cX8_addAnswer 60 = .ok (.getfield 21, 3) := by decide +kernel
theorem dX8_addAnswer_63 : decode cX8_addAnswer 63 = .ok (.aload_n 0, 1) := by decide +kernel
theorem dX8_addAnswer_64 : decode cX8_addAnswer 64 = .ok (.getfield 46, 3) := by decide +kernel
theorem dX8_addAnswer_67 : decode cX8_addAnswer 67 = .ok (.iconst 0, 1) := by decide +kernel
theorem dX8_addAnswer_68 : decode cX8_addAnswer 68 = .ok (.iastore, 1) := by decide +kernel
theorem dX8_addAnswer_69 : decode cX8_addAnswer 69 = .ok (.aload_n 0, 1) := by decide +kernel
theorem dX8_addAnswer_70 : decode cX8_addAnswer 70 = .ok (.getfield 30, 3) := by decide +kernel
theorem dX8_addAnswer_73 : decode cX8_addAnswer 73 = .ok (.aload_n 0, 1) := by decide +kernel
theorem dX8_addAnswer_74 : decode cX8_addAnswer 74 = .ok (.getfield 46, 3) := by decide +kernel
theorem dX8_addAnswer_77 : decode cX8_addAnswer 77 = .ok (.iconst 0, 1) := by decide +kernel
theorem dX8_addAnswer_78 : decode cX8_addAnswer 78 = .ok (.iastore, 1) := by decide +kernel
theorem dX8_addAnswer_79 : decode cX8_addAnswer 79 = .ok (.aload_n 0, 1) := by decide +kernel
theorem dX8_addAnswer_80 : decode cX8_addAnswer 80 = .ok (.getfield 33, 3) := by decide +kernel
theorem dX8_addAnswer_83 : decode cX8_addAnswer 83 = .ok (.aload_n 0, 1) := by decide +kernel
theorem dX8_addAnswer_84 : decode cX8_addAnswer 84 = .ok (.getfield 46, 3) := by decide +kernel
theorem dX8_addAnswer_87 : decode cX8_addAnswer 87 = .ok (.iconst 0, 1) := by decide +kernel
theorem dX8_addAnswer_88 : decode cX8_addAnswer 88 = .ok (.iastore, 1) := by decide +kernel
theorem dX8_addAnswer_89 : decode cX8_addAnswer 89 = .ok (.iconst 1, 1) := by decide +kernel
theorem dX8_addAnswer_90 : decode cX8_addAnswer 90 = .ok (.ireturn, 1) := by decide +kernel
theorem dX8_addAlternative_0 : decode cX8_addAlternative 0 = .ok (.aload_n 0, 1) := by decide +kernel
theorem dX8_addAlternative_1 : decode cX8_addAlternative 1 = .ok (.getfield 21, 3) := by decide +kernel
theorem dX8_addAlternative_4 : decode cX8_addAlternative 4 = .ok (.aload_n 0, 1) := by decide +kernel
theorem dX8_addAlternative_5 : decode cX8_addAlternative 5 = .ok (.getfield 46, 3) := by decide +kernel
theorem dX8_addAlternative_8 : decode cX8_addAlternative 8 = .ok (.iaload, 1) := by decide +kernel
theorem dX8_addAlternative_9 : decode cX8_addAlternative 9 = .ok (.iconst 3, 1) := by decide +kernel
theorem dX8_addAlternative_10 : decode cX8_addAlternative 10 = .ok (.if_icmp .lt 5, 3) := by decide +kernel
theorem dX8_addAlternative_13 : decode cX8_addAlternative 13 = .ok (.iconst 0, 1) := by decide +kernel
theorem dX8_addAlternative_14 : decode cX8_addAlternative 14 = .ok (.ireturn, 1) := by decide +kernel
theorem dX8_addAlternative_15 : decode cX8_addAlternative 15 = .ok (.aload_n 0, 1) := by decide +kernel
theorem dX8_addAlternative_16 : decode cX8_addAlternative 16 = .ok (.aload_n 0, 1) := by decide +kernel
theorem dX8_addAlternative_17 : decode cX8_addAlternative 17 = .ok (.getfield 46, 3) := by decide +kernel
theorem dX8_addAlternative_20 : decode cX8_addAlternative 20 = .ok (.iconst 3, 1) := by decide +kernel
theorem dX8_addAlternative_21 : decode cX8_addAlternative 21 = .ok (.imul, 1) := by decide +kernel
theorem dX8_addAlternative_22 : decode cX8_addAlternative 22 = .ok (.aload_n 0, 1) := by decide +kernel
theorem dX8_addAlternative_23 : decode cX8_addAlternative 23 = .ok (.getfield 21, 3) := by decide +kernel
theorem dX8_addAlternative_26 : decode cX8_addAlternative 26 = .ok (.aload_n 0, 1) := by decide +kernel
theorem dX8_addAlternative_27 : decode cX8_addAlternative 27 = .ok (.getfield 46, 3) := by decide +kernel
theorem dX8_addAlternative_30 : decode cX8_addAlternative 30 = .ok (.iaload, 1) := by decide +kernel
theorem dX8_addAlternative_31 : decode cX8_addAlternative 31 = .ok (.iadd, 1) := by decide +kernel
theorem dX8_addAlternative_32 : decode cX8_addAlternative 32 = .ok (.putfield 49, 3) := by decide +kernel
theorem dX8_addAlternative_35 : decode cX8_addAlternative 35 = .ok (.aload_n 0, 1) := by decide +kernel
theorem dX8_addAlternative_36 : decode cX8_addAlternative 36 = .ok (.getfield 21, 3) := by decide +kernel
theorem dX8_addAlternative_39 : decode cX8_addAlternative 39 = .ok (.aload_n 0, 1) := by decide +kernel
theorem dX8_addAlternative_40 : decode cX8_addAlternative 40 = .ok (.getfield 46, 3) := by decide +kernel
theorem dX8_addAlternative_43 : decode cX8_addAlternative 43 = .ok (.dup2, 1) := by decide +kernel
theorem dX8_addAlternative_44 : decode cX8_addAlternative 44 = .ok (.iaload, 1) := by decide +kernel
theorem dX8_addAlternative_45 : decode cX8_addAlternative 45 = .ok (.iconst 1, 1) := by decide +kernel
theorem dX8_addAlternative_46 : decode cX8_addAlternative 46 = .ok (.iadd, 1) := by decide +kernel
theorem dX8_addAlternative_47 : decode cX8_addAlternative 47 = .ok (.iastore, 1) := by decide +kernel
theorem dX8_addAlternative_48 : decode cX8_addAlternative 48 = .ok (.aload_n 0, 1) := by decide +kernel
theorem dX8_addAlternative_49 : decode cX8_addAlternative 49 = .ok (.getfield 24, 3) := by decide +kernel
theorem dX8_addAlternative_52 : decode cX8_addAlternative 52 = .ok (.aload_n 0, 1) := by decide +kernel
theorem dX8_addAlternative_53 : decode cX8_addAlternative 53 = .ok (.getfield 49, 3) := by decide +kernel
theorem dX8_addAlternative_56 : decode cX8_addAlternative 56 = .ok (.iconst 0, 1) := by decide +kernel
theorem dX8_addAlternative_57 : decode cX8_addAlternative 57 = .ok (.iastore, 1) := by decide +kernel
theorem dX8_addAlternative_58 : decode cX8_addAlternative 58 = .ok (.aload_n 0, 1) := by decide +kernel
theorem dX8_addAlternative_59 : decode cX8_addAlternative 59 = .ok (.getfield 27, 3) := by decide +kernel
theorem dX8_addAlternative_62 : decode cX8_addAlternative 62 = .ok (.aload_n 0, 1) := by decide +kernel
theorem dX8_addAlternative_63 : decode cX8_addAlternative 63 = .ok (.getfield 49, 3) := by decide +kernel
theorem dX8_addAlternative_66 : decode cX8_addAlternative 66 = .ok (.iconst 0, 1) := by decide +kernel
theorem dX8_addAlternative_67 : decode cX8_addAlternative 67 = .ok (.iastore, 1) := by decide +kernel
theorem dX8_addAlternative_68 : decode cX8_addAlternative 68 = .ok (.iconst 1, 1) := by decide +kernel
theorem dX8_addAlternative_69 : decode cX8_addAlternative 69 = .ok (.ireturn, 1) := by decide +kernel
theorem dX8_sortByLine_0 : decode cX8_sortByLine 0 = .ok (.iconst 0, 1) := by decide +kernel
theorem dX8_sortByLine_1 : decode cX8_sortByLine 1 = .ok (.istore_n 1, 1) := by decide +kernel
theorem dX8_sortByLine_2 : decode cX8_sortByLine 2 = .ok (.iconst 0, 1) := by decide +kernel
theorem dX8_sortByLine_3 : decode cX8_sortByLine 3 = .ok (.istore_n 2, 1) := by decide +kernel
theorem dX8_sortByLine_4 : decode cX8_sortByLine 4 = .ok (.iload_n 2, 1) := by decide +kernel
theorem dX8_sortByLine_5 : decode cX8_sortByLine 5 = .ok (.bipush 16, 2) := by decide +kernel
theorem dX8_sortByLine_7 : decode cX8_sortByLine 7 = .ok (.if_icmp .ge 58, 3) := by decide +kernel
theorem dX8_sortByLine_10 : decode cX8_sortByLine 10 = .ok (.aload_n 0, 1) := by decide +kernel
theorem dX8_sortByLine_11 : decode cX8_sortByLine 11 = .ok (.getfield 39, 3) := by decide +kernel
theorem dX8_sortByLine_14 : decode cX8_sortByLine 14 = .ok (.iload_n 2, 1) := by decide +kernel
theorem dX8_sortByLine_15 : decode cX8_sortByLine 15 = .ok (.iload_n 1, 1) := by decide +kernel
theorem dX8_sortByLine_16 : decode cX8_sortByLine 16 = .ok (.iastore, 1) := by decide +kernel
theorem dX8_sortByLine_17 : decode cX8_sortByLine 17 = .ok (.iconst 0, 1) := by decide +kernel
theorem dX8_sortByLine_18 : decode cX8_sortByLine 18 = .ok (.istore_n 3, 1) := by decide +kernel
theorem dX8_sortByLine_19 : decode cX8_sortByLine 19 = .ok (.iload_n 3, 1) := by decide +kernel
theorem dX8_sortByLine_20 : decode cX8_sortByLine 20 = .ok (.aload_n 0, 1) := by decide +kernel
theorem dX8_sortByLine_21 : decode cX8_sortByLine 21 = .ok (.getfield 42, 3) := by decide +kernel
theorem dX8_sortByLine_24 : decode cX8_sortByLine 24 = .ok (.if_icmp .ge 35, 3) := by decide +kernel
theorem dX8_sortByLine_27 : decode cX8_sortByLine 27 = .ok (.aload_n 0, 1) := by decide +kernel
theorem dX8_sortByLine_28 : decode cX8_sortByLine 28 = .ok (.getfield 9, 3) := by decide +kernel
theorem dX8_sortByLine_31 : decode cX8_sortByLine 31 = .ok (.iload_n 3, 1) := by decide +kernel
theorem dX8_sortByLine_32 : decode cX8_sortByLine 32 = .ok (.iaload, 1) := by decide +kernel
theorem dX8_sortByLine_33 : decode cX8_sortByLine 33 = .ok (.iload_n 2, 1) := by decide +kernel
theorem dX8_sortByLine_34 : decode cX8_sortByLine 34 = .ok (.if_icmp .ne 19, 3) := by decide +kernel
theorem dX8_sortByLine_37 : decode cX8_sortByLine 37 = .ok (.iload_n 1, 1) := by decide +kernel
theorem dX8_sortByLine_38 : decode cX8_sortByLine 38 = .ok (.bipush 32, 2) := by decide +kernel
theorem dX8_sortByLine_40 : decode cX8_sortByLine 40 = .ok (.if_icmp .ge 13, 3) := by decide +kernel
theorem dX8_sortByLine_43 : decode cX8_sortByLine 43 = .ok (.aload_n 0, 1) := by decide +kernel
theorem dX8_sortByLine_44 : decode cX8_sortByLine 44 = .ok (.getfield 36, 3) := by decide +kernel
theorem dX8_sortByLine_47 : decode cX8_sortByLine 47 = .ok (.iload_n 1, 1) := by decide +kernel
theorem dX8_sortByLine_48 : decode cX8_sortByLine 48 = .ok (.iload_n 3, 1) := by decide +kernel
theorem dX8_sortByLine_49 : decode cX8_sortByLine 49 = .ok (.iastore, 1) := by decide +kernel
theorem dX8_sortByLine_50 : decode cX8_sortByLine 50 = .ok (.iinc 1 1, 3) := by decide +kernel
theorem dX8_sortByLine_53 : decode cX8_sortByLine 53 = .ok (.iinc 3 1, 3) := by decide +kernel
theorem dX8_sortByLine_56 : decode cX8_sortByLine 56 = .ok (.goto (-37), 3) := by decide +kernel
theorem dX8_sortByLine_59 : decode cX8_sortByLine 59 = .ok (.iinc 2 1, 3) := by decide +kernel
theorem dX8_sortByLine_62 : decode cX8_sortByLine 62 = .ok (.goto (-58), 3) := by decide +kernel
theorem dX8_sortByLine_65 : decode cX8_sortByLine 65 = .ok (.aload_n 0, 1) := by decide +kernel
theorem dX8_sortByLine_66 : decode cX8_sortByLine 66 = .ok (.getfield 39, 3) := by decide +kernel
theorem dX8_sortByLine_69 : decode cX8_sortByLine 69 = .ok (.bipush 16, 2) := by decide +kernel
theorem dX8_sortByLine_71 : decode cX8_sortByLine 71 = .ok (.iload_n 1, 1) := by decide +kernel
theorem dX8_sortByLine_72 : decode cX8_sortByLine 72 = .ok (.iastore, 1) := by decide +kernel
theorem dX8_sortByLine_73 : decode cX8_sortByLine 73 = .ok (.return_, 1) := by decide +kernel
theorem dX8_setCut_0 : decode cX8_setCut 0 = .ok (.aload_n 0, 1) := by decide +kernel
theorem dX8_setCut_1 : decode cX8_setCut 1 = .ok (.iload_n 2, 1) := by decide +kernel
theorem dX8_setCut_2 : decode cX8_setCut 2 = .ok (.iconst 1, 1) := by decide +kernel
theorem dX8_setCut_3 : decode cX8_setCut 3 = .ok (.if_icmp .ne 14, 3) := by decide +kernel
theorem dX8_setCut_6 : decode cX8_setCut 6 = .ok (.aload_n 0, 1) := by decide +kernel
theorem dX8_setCut_7 : decode cX8_setCut 7 = .ok (.getfield 61, 3) := by decide +kernel
theorem dX8_setCut_10 : decode cX8_setCut 10 = .ok (.iconst 1, 1) := by decide +kernel
theorem dX8_setCut_11 : decode cX8_setCut 11 = .ok (.iload_n 1, 1) := by decide +kernel
theorem dX8_setCut_12 : decode cX8_setCut 12 = .ok (.ishl, 1) := by decide +kernel
theorem dX8_setCut_13 : decode cX8_setCut 13 = .ok (.ior, 1) := by decide +kernel
theorem dX8_setCut_14 : decode cX8_setCut 14 = .ok (.goto 13, 3) := by decide +kernel
theorem dX8_setCut_17 : decode cX8_setCut 17 = .ok (.aload_n 0, 1) := by decide +kernel
theorem dX8_setCut_18 : decode cX8_setCut 18 = .ok (.getfield 61, 3) := by decide +kernel
theorem dX8_setCut_21 : decode cX8_setCut 21 = .ok (.iconst 1, 1) := by decide +kernel
theorem dX8_setCut_22 : decode cX8_setCut 22 = .ok (.iload_n 1, 1) := by decide +kernel
theorem dX8_setCut_23 : decode cX8_setCut 23 = .ok (.ishl, 1) := by decide +kernel
theorem dX8_setCut_24 : decode cX8_setCut 24 = .ok (.iconst (-1), 1) := by decide +kernel
theorem dX8_setCut_25 : decode cX8_setCut 25 = .ok (.ixor, 1) := by decide +kernel
theorem dX8_setCut_26 : decode cX8_setCut 26 = .ok (.iand, 1) := by decide +kernel
theorem dX8_setCut_27 : decode cX8_setCut 27 = .ok (.putfield 61, 3) := by decide +kernel
theorem dX8_setCut_30 : decode cX8_setCut 30 = .ok (.return_, 1) := by decide +kernel
theorem dX8_isOpen_0 : decode cX8_isOpen 0 = .ok (.aload_n 0, 1) := by decide +kernel
theorem dX8_isOpen_1 : decode cX8_isOpen 1 = .ok (.getfield 9, 3) := by decide +kernel
theorem dX8_isOpen_4 : decode cX8_isOpen 4 = .ok (.iload_n 1, 1) := by decide +kernel
theorem dX8_isOpen_5 : decode cX8_isOpen 5 = .ok (.iaload, 1) := by decide +kernel
theorem dX8_isOpen_6 : decode cX8_isOpen 6 = .ok (.iload_n 2, 1) := by decide +kernel
theorem dX8_isOpen_7 : decode cX8_isOpen 7 = .ok (.if_icmp .ne 39, 3) := by decide +kernel
theorem dX8_isOpen_10 : decode cX8_isOpen 10 = .ok (.aload_n 0, 1) := by decide +kernel
theorem dX8_isOpen_11 : decode cX8_isOpen 11 = .ok (.getfield 61, 3) := by decide +kernel
theorem dX8_isOpen_14 : decode cX8_isOpen 14 = .ok (.iload_n 1, 1) := by decide +kernel
theorem dX8_isOpen_15 : decode cX8_isOpen 15 = .ok (.invokestatic 64, 3) := by decide +kernel
theorem dX8_isOpen_18 : decode cX8_isOpen 18 = .ok (.ifCond .ne 28, 3) := by decide +kernel
theorem dX8_isOpen_21 : decode cX8_isOpen 21 = .ok (.aload_n 0, 1) := by decide +kernel
theorem dX8_isOpen_22 : decode cX8_isOpen 22 = .ok (.getfield 55, 3) := by decide +kernel
theorem dX8_isOpen_25 : decode cX8_isOpen 25 = .ok (.iload_n 2, 1) := by decide +kernel
theorem dX8_isOpen_26 : decode cX8_isOpen 26 = .ok (.invokestatic 64, 3) := by decide +kernel
theorem dX8_isOpen_29 : decode cX8_isOpen 29 = .ok (.ifCond .ne 17, 3) := by decide +kernel
theorem dX8_isOpen_32 : decode cX8_isOpen 32 = .ok (.aload_n 0, 1) := by decide +kernel
theorem dX8_isOpen_33 : decode cX8_isOpen 33 = .ok (.iload_n 1, 1) := by decide +kernel
theorem dX8_isOpen_34 : decode cX8_isOpen 34 = .ok (.iload_n 3, 1) := by decide +kernel
theorem dX8_isOpen_35 : decode cX8_isOpen 35 = .ok (.iconst 0, 1) := by decide +kernel
theorem dX8_isOpen_36 : decode cX8_isOpen 36 = .ok (.invokevirtual 68, 3) := by decide +kernel
theorem dX8_isOpen_39 : decode cX8_isOpen 39 = .ok (.ifCond .eq 7, 3) := by decide +kernel
theorem dX8_isOpen_42 : decode cX8_isOpen 42 = .ok (.iconst 1, 1) := by decide +kernel
theorem dX8_isOpen_43 : decode cX8_isOpen 43 = .ok (.goto 4, 3) := by decide +kernel
theorem dX8_isOpen_46 : decode cX8_isOpen 46 = .ok (.iconst 0, 1) := by decide +kernel
theorem dX8_isOpen_47 : decode cX8_isOpen 47 = .ok (.ireturn, 1) := by decide +kernel
theorem dX8_guardHolds_0 : decode cX8_guardHolds 0 = .ok (.iload_n 1, 1) := by decide +kernel
theorem dX8_guardHolds_1 : decode cX8_guardHolds 1 = .ok (.iconst 3, 1) := by decide +kernel
theorem dX8_guardHolds_2 : decode cX8_guardHolds 2 = .ok (.imul, 1) := by decide +kernel
theorem dX8_guardHolds_3 : decode cX8_guardHolds 3 = .ok (.istore 4, 2) := by decide +kernel
theorem dX8_guardHolds_5 : decode cX8_guardHolds 5 = .ok (.iload 4, 2) := by decide +kernel
theorem dX8_guardHolds_7 : decode cX8_guardHolds 7 = .ok (.istore 5, 2) := by decide +kernel
theorem dX8_guardHolds_9 : decode cX8_guardHolds 9 = .ok (.iload 5, 2) := by decide +kernel
theorem dX8_guardHolds_11 : decode cX8_guardHolds 11 = .ok (.iload 4, 2) := by decide +kernel
theorem dX8_guardHolds_13 : decode cX8_guardHolds 13 = .ok (.aload_n 0, 1) := by decide +kernel
theorem dX8_guardHolds_14 : decode cX8_guardHolds 14 = .ok (.getfield 21, 3) := by decide +kernel
theorem dX8_guardHolds_17 : decode cX8_guardHolds 17 = .ok (.iload_n 1, 1) := by decide +kernel
theorem dX8_guardHolds_18 : decode cX8_guardHolds 18 = .ok (.iaload, 1) := by decide +kernel
theorem dX8_guardHolds_19 : decode cX8_guardHolds 19 = .ok (.iadd, 1) := by decide +kernel
theorem dX8_guardHolds_20 : decode cX8_guardHolds 20 = .ok (.if_icmp .ge 47, 3) := by decide +kernel
theorem dX8_guardHolds_23 : decode cX8_guardHolds 23 = .ok (.aload_n 0, 1) := by decide +kernel
theorem dX8_guardHolds_24 : decode cX8_guardHolds 24 = .ok (.getfield 24, 3) := by decide +kernel
theorem dX8_guardHolds_27 : decode cX8_guardHolds 27 = .ok (.iload 5, 2) := by decide +kernel
theorem dX8_guardHolds_29 : decode cX8_guardHolds 29 = .ok (.iaload, 1) := by decide +kernel
theorem dX8_guardHolds_30 : decode cX8_guardHolds 30 = .ok (.iload_n 2, 1) := by decide +kernel
theorem dX8_guardHolds_31 : decode cX8_guardHolds 31 = .ok (.iconst (-1), 1) := by decide +kernel
theorem dX8_guardHolds_32 : decode cX8_guardHolds 32 = .ok (.ixor, 1) := by decide +kernel
theorem dX8_guardHolds_33 : decode cX8_guardHolds 33 = .ok (.iand, 1) := by decide +kernel
theorem dX8_guardHolds_34 : decode cX8_guardHolds 34 = .ok (.istore 6, 2) := by decide +kernel
theorem dX8_guardHolds_36 : decode cX8_guardHolds 36 = .ok (.aload_n 0, 1) := by decide +kernel
theorem dX8_guardHolds_37 : decode cX8_guardHolds 37 = .ok (.getfield 27, 3) := by decide +kernel
theorem dX8_guardHolds_40 : decode cX8_guardHolds 40 = .ok (.iload 5, 2) := by decide +kernel
theorem dX8_guardHolds_42 : decode cX8_guardHolds 42 = .ok (.iaload, 1) := by decide +kernel
theorem dX8_guardHolds_43 : decode cX8_guardHolds 43 = .ok (.iload_n 2, 1) := by decide +kernel
theorem dX8_guardHolds_44 : decode cX8_guardHolds 44 = .ok (.iand, 1) := by decide +kernel
theorem dX8_guardHolds_45 : decode cX8_guardHolds 45 = .ok (.istore 7, 2) := by decide +kernel
theorem dX8_guardHolds_47 : decode cX8_guardHolds 47 = .ok (.iload 6, 2) := by decide +kernel
theorem dX8_guardHolds_49 : decode cX8_guardHolds 49 = .ok (.iload 7, 2) := by decide +kernel
theorem dX8_guardHolds_51 : decode cX8_guardHolds 51 = .ok (.ior, 1) := by decide +kernel
theorem dX8_guardHolds_52 : decode cX8_guardHolds 52 = .ok (.iload_n 3, 1) := by decide +kernel
theorem dX8_guardHolds_53 : decode cX8_guardHolds 53 = .ok (.iconst (-1), 1) := by decide +kernel
theorem dX8_guardHolds_54 : decode cX8_guardHolds 54 = .ok (.ixor, 1) := by decide +kernel
theorem dX8_guardHolds_55 : decode cX8_guardHolds 55 = .ok (.iand, 1) := by decide +kernel
theorem dX8_guardHolds_56 : decode cX8_guardHolds 56 = .ok (.ifCond .ne 5, 3) := by decide +kernel
theorem dX8_guardHolds_59 : decode cX8_guardHolds 59 = .ok (.iconst 1, 1) := by decide +kernel
theorem dX8_guardHolds_60 : decode cX8_guardHolds 60 = .ok (.ireturn, 1) := by decide +kernel
theorem dX8_guardHolds_61 : decode cX8_guardHolds 61 = .ok (.iinc 5 1, 3) := by decide +kernel
theorem dX8_guardHolds_64 : decode cX8_guardHolds 64 = .ok (.goto (-55), 3) := by decide +kernel
theorem dX8_guardHolds_67 : decode cX8_guardHolds 67 = .ok (.aload_n 0, 1) := by decide +kernel
theorem dX8_guardHolds_68 : decode cX8_guardHolds 68 = .ok (.getfield 21, 3) := by decide +kernel
theorem dX8_guardHolds_71 : decode cX8_guardHolds 71 = .ok (.iload_n 1, 1) := by decide +kernel
theorem dX8_guardHolds_72 : decode cX8_guardHolds 72 = .ok (.iaload, 1) := by decide +kernel
theorem dX8_guardHolds_73 : decode cX8_guardHolds 73 = .ok (.ifCond .ne 7, 3) := by decide +kernel
theorem dX8_guardHolds_76 : decode cX8_guardHolds 76 = .ok (.iconst 1, 1) := by decide +kernel
theorem dX8_guardHolds_77 : decode cX8_guardHolds 77 = .ok (.goto 4, 3) := by decide +kernel
theorem dX8_guardHolds_80 : decode cX8_guardHolds 80 = .ok (.iconst 0, 1) := by decide +kernel
theorem dX8_guardHolds_81 : decode cX8_guardHolds 81 = .ok (.ireturn, 1) := by decide +kernel
theorem dX8_guardContradictsItself_0 : decode cX8_guardContradictsItself 0 = .ok (.iload_n 1, 1) := by decide +kernel
theorem dX8_guardContradictsItself_1 : decode cX8_guardContradictsItself 1 = .ok (.iconst 3, 1) := by decide +kernel
theorem dX8_guardContradictsItself_2 : decode cX8_guardContradictsItself 2 = .ok (.imul, 1) := by decide +kernel
theorem dX8_guardContradictsItself_3 : decode cX8_guardContradictsItself 3 = .ok (.istore_n 2, 1) := by decide +kernel
theorem dX8_guardContradictsItself_4 : decode cX8_guardContradictsItself 4 = .ok (.iload_n 2, 1) := by decide +kernel
theorem dX8_guardContradictsItself_5 : decode cX8_guardContradictsItself 5 = .ok (.istore_n 3, 1) := by decide +kernel
theorem dX8_guardContradictsItself_6 : decode cX8_guardContradictsItself 6 = .ok (.iload_n 3, 1) := by decide +kernel
theorem dX8_guardContradictsItself_7 : decode cX8_guardContradictsItself 7 = .ok (.iload_n 2, 1) := by decide +kernel
theorem dX8_guardContradictsItself_8 : decode cX8_guardContradictsItself 8 = .ok (.aload_n 0, 1) := by decide +kernel
theorem dX8_guardContradictsItself_9 : decode cX8_guardContradictsItself 9 = .ok (.getfield 21, 3) := by decide +kernel
theorem dX8_guardContradictsItself_12 : decode cX8_guardContradictsItself 12 = .ok (.iload_n 1, 1) := by decide +kernel
theorem dX8_guardContradictsItself_13 : decode cX8_guardContradictsItself 13 = .ok (.iaload, 1) := by decide +kernel
theorem dX8_guardContradictsItself_14 : decode cX8_guardContradictsItself 14 = .ok (.iadd, 1) := by decide +kernel
theorem dX8_guardContradictsItself_15 : decode cX8_guardContradictsItself 15 = .ok (.if_icmp .ge 27, 3) := by decide +kernel
theorem dX8_guardContradictsItself_18 : decode cX8_guardContradictsItself 18 = .ok (.aload_n 0, 1) := by decide +kernel
theorem dX8_guardContradictsItself_19 : decode cX8_guardContradictsItself 19 = .ok (.getfield 24, 3) := by decide +kernel
theorem dX8_guardContradictsItself_22 : decode cX8_guardContradictsItself 22 = .ok (.iload_n 3, 1) := by decide +kernel
theorem dX8_guardContradictsItself_23 : decode cX8_guardContradictsItself 23 = .ok (.iaload, 1) := by decide +kernel
theorem dX8_guardContradictsItself_24 : decode cX8_guardContradictsItself 24 = .ok (.aload_n 0, 1) := by decide +kernel
theorem dX8_guardContradictsItself_25 : decode cX8_guardContradictsItself 25 = .ok (.getfield 27, 3) := by decide +kernel
theorem dX8_guardContradictsItself_28 : decode cX8_guardContradictsItself 28 = .ok (.iload_n 3, 1) := by decide +kernel
theorem dX8_guardContradictsItself_29 : decode cX8_guardContradictsItself 29 = .ok (.iaload, 1) := by decide +kernel
theorem dX8_guardContradictsItself_30 : decode cX8_guardContradictsItself 30 = .ok (.iand, 1) := by decide +kernel
theorem dX8_guardContradictsItself_31 : decode cX8_guardContradictsItself 31 = .ok (.ifCond .ne 5, 3) := by decide +kernel
theorem dX8_guardContradictsItself_34 : decode cX8_guardContradictsItself 34 = .ok (.iconst 0, 1) := by decide +kernel
theorem dX8_guardContradictsItself_35 : decode cX8_guardContradictsItself 35 = .ok (.ireturn, 1) := by decide +kernel
theorem dX8_guardContradictsItself_36 : decode cX8_guardContradictsItself 36 = .ok (.iinc 3 1, 3) := by decide +kernel
theorem dX8_guardContradictsItself_39 : decode cX8_guardContradictsItself 39 = .ok (.goto (-33), 3) := by decide +kernel
theorem dX8_guardContradictsItself_42 : decode cX8_guardContradictsItself 42 = .ok (.aload_n 0, 1) := by decide +kernel
theorem dX8_guardContradictsItself_43 : decode cX8_guardContradictsItself 43 = .ok (.getfield 21, 3) := by decide +kernel
theorem dX8_guardContradictsItself_46 : decode cX8_guardContradictsItself 46 = .ok (.iload_n 1, 1) := by decide +kernel
theorem dX8_guardContradictsItself_47 : decode cX8_guardContradictsItself 47 = .ok (.iaload, 1) := by decide +kernel
theorem dX8_guardContradictsItself_48 : decode cX8_guardContradictsItself 48 = .ok (.ifCond .le 7, 3) := by decide +kernel
theorem dX8_guardContradictsItself_51 : decode cX8_guardContradictsItself 51 = .ok (.iconst 1, 1) := by decide +kernel
theorem dX8_guardContradictsItself_52 : decode cX8_guardContradictsItself 52 = .ok (.goto 4, 3) := by decide +kernel
theorem dX8_guardContradictsItself_55 : decode cX8_guardContradictsItself 55 = .ok (.iconst 0, 1) := by decide +kernel
theorem dX8_guardContradictsItself_56 : decode cX8_guardContradictsItself 56 = .ok (.ireturn, 1) := by decide +kernel
theorem dX8_marksBehind_0 : decode cX8_marksBehind 0 = .ok (.iload_n 2, 1) := by decide +kernel
theorem dX8_marksBehind_1 : decode cX8_marksBehind 1 = .ok (.aload_n 0, 1) := by decide +kernel
theorem dX8_marksBehind_2 : decode cX8_marksBehind 2 = .ok (.getfield 30, 3) := by decide +kernel
theorem dX8_marksBehind_5 : decode cX8_marksBehind 5 = .ok (.iload_n 1, 1) := by decide +kernel
theorem dX8_marksBehind_6 : decode cX8_marksBehind 6 = .ok (.iaload, 1) := by decide +kernel
theorem dX8_marksBehind_7 : decode cX8_marksBehind 7 = .ok (.ior, 1) := by decide +kernel
theorem dX8_marksBehind_8 : decode cX8_marksBehind 8 = .ok (.aload_n 0, 1) := by decide +kernel
theorem dX8_marksBehind_9 : decode cX8_marksBehind 9 = .ok (.getfield 33, 3) := by decide +kernel
theorem dX8_marksBehind_12 : decode cX8_marksBehind 12 = .ok (.iload_n 1, 1) := by decide +kernel
theorem dX8_marksBehind_13 : decode cX8_marksBehind 13 = .ok (.iaload, 1) := by decide +kernel
theorem dX8_marksBehind_14 : decode cX8_marksBehind 14 = .ok (.iconst (-1), 1) := by decide +kernel
theorem dX8_marksBehind_15 : decode cX8_marksBehind 15 = .ok (.ixor, 1) := by decide +kernel
theorem dX8_marksBehind_16 : decode cX8_marksBehind 16 = .ok (.iand, 1) := by decide +kernel
theorem dX8_marksBehind_17 : decode cX8_marksBehind 17 = .ok (.ireturn, 1) := by decide +kernel
theorem dX8_stateBehind_0 : decode cX8_stateBehind 0 = .ok (.aload_n 0, 1) := by decide +kernel
theorem dX8_stateBehind_1 : decode cX8_stateBehind 1 = .ok (.getfield 15, 3) := by decide +kernel
theorem dX8_stateBehind_4 : decode cX8_stateBehind 4 = .ok (.iload_n 1, 1) := by decide +kernel
theorem dX8_stateBehind_5 : decode cX8_stateBehind 5 = .ok (.iaload, 1) := by decide +kernel
theorem dX8_stateBehind_6 : decode cX8_stateBehind 6 = .ok (.bipush 64, 2) := by decide +kernel
theorem dX8_stateBehind_8 : decode cX8_stateBehind 8 = .ok (.imul, 1) := by decide +kernel
theorem dX8_stateBehind_9 : decode cX8_stateBehind 9 = .ok (.aload_n 0, 1) := by decide +kernel
theorem dX8_stateBehind_10 : decode cX8_stateBehind 10 = .ok (.iload_n 1, 1) := by decide +kernel
theorem dX8_stateBehind_11 : decode cX8_stateBehind 11 = .ok (.iload_n 2, 1) := by decide +kernel
theorem dX8_stateBehind_12 : decode cX8_stateBehind 12 = .ok (.invokevirtual 72, 3) := by decide +kernel
theorem dX8_stateBehind_15 : decode cX8_stateBehind 15 = .ok (.iadd, 1) := by decide +kernel
theorem dX8_stateBehind_16 : decode cX8_stateBehind 16 = .ok (.ireturn, 1) := by decide +kernel
theorem dX8_answersThatLay_0 : decode cX8_answersThatLay 0 = .ok (.iconst 0, 1) := by decide +kernel
theorem dX8_answersThatLay_1 : decode cX8_answersThatLay 1 = .ok (.istore_n 2, 1) := by decide +kernel
theorem dX8_answersThatLay_2 : decode cX8_answersThatLay 2 = .ok (.iconst 0, 1) := by decide +kernel
theorem dX8_answersThatLay_3 : decode cX8_answersThatLay 3 = .ok (.istore_n 3, 1) := by decide +kernel
theorem dX8_answersThatLay_4 : decode cX8_answersThatLay 4 = .ok (.iload_n 3, 1) := by decide +kernel
theorem dX8_answersThatLay_5 : decode cX8_answersThatLay 5 = .ok (.aload_n 0, 1) := by decide +kernel
theorem dX8_answersThatLay_6 : decode cX8_answersThatLay 6 = .ok (.getfield 42, 3) := by decide +kernel
theorem dX8_answersThatLay_9 : decode cX8_answersThatLay 9 = .ok (.if_icmp .ge 24, 3) := by decide +kernel
theorem dX8_answersThatLay_12 : decode cX8_answersThatLay 12 = .ok (.iload_n 2, 1) := by decide +kernel
theorem dX8_answersThatLay_13 : decode cX8_answersThatLay 13 = .ok (.aload_n 0, 1) := by decide +kernel
theorem dX8_answersThatLay_14 : decode cX8_answersThatLay 14 = .ok (.getfield 30, 3) := by decide +kernel
theorem dX8_answersThatLay_17 : decode cX8_answersThatLay 17 = .ok (.iload_n 3, 1) := by decide +kernel
theorem dX8_answersThatLay_18 : decode cX8_answersThatLay 18 = .ok (.iaload, 1) := by decide +kernel
theorem dX8_answersThatLay_19 : decode cX8_answersThatLay 19 = .ok (.iload_n 1, 1) := by decide +kernel
theorem dX8_answersThatLay_20 : decode cX8_answersThatLay 20 = .ok (.invokestatic 64, 3) := by decide +kernel
theorem dX8_answersThatLay_23 : decode cX8_answersThatLay 23 = .ok (.iload_n 3, 1) := by decide +kernel
theorem dX8_answersThatLay_24 : decode cX8_answersThatLay 24 = .ok (.ishl, 1) := by decide +kernel
theorem dX8_answersThatLay_25 : decode cX8_answersThatLay 25 = .ok (.ior, 1) := by decide +kernel
theorem dX8_answersThatLay_26 : decode cX8_answersThatLay 26 = .ok (.istore_n 2, 1) := by decide +kernel
theorem dX8_answersThatLay_27 : decode cX8_answersThatLay 27 = .ok (.iinc 3 1, 3) := by decide +kernel
theorem dX8_answersThatLay_30 : decode cX8_answersThatLay 30 = .ok (.goto (-26), 3) := by decide +kernel
theorem dX8_answersThatLay_33 : decode cX8_answersThatLay 33 = .ok (.iload_n 2, 1) := by decide +kernel
theorem dX8_answersThatLay_34 : decode cX8_answersThatLay 34 = .ok (.ireturn, 1) := by decide +kernel
theorem dX8_guardsThatName_0 : decode cX8_guardsThatName 0 = .ok (.iconst 0, 1) := by decide +kernel
theorem dX8_guardsThatName_1 : decode cX8_guardsThatName 1 = .ok (.istore_n 2, 1) := by decide +kernel
theorem dX8_guardsThatName_2 : decode cX8_guardsThatName 2 = .ok (.iconst 0, 1) := by decide +kernel
theorem dX8_guardsThatName_3 : decode cX8_guardsThatName 3 = .ok (.istore_n 3, 1) := by decide +kernel
theorem dX8_guardsThatName_4 : decode cX8_guardsThatName 4 = .ok (.iload_n 3, 1) := by decide +kernel
theorem dX8_guardsThatName_5 : decode cX8_guardsThatName 5 = .ok (.aload_n 0, 1) := by decide +kernel
theorem dX8_guardsThatName_6 : decode cX8_guardsThatName 6 = .ok (.getfield 42, 3) := by decide +kernel
theorem dX8_guardsThatName_9 : decode cX8_guardsThatName 9 = .ok (.if_icmp .ge 21, 3) := by decide +kernel
theorem dX8_guardsThatName_12 : decode cX8_guardsThatName 12 = .ok (.iload_n 2, 1) := by decide +kernel
theorem dX8_guardsThatName_13 : decode cX8_guardsThatName 13 = .ok (.aload_n 0, 1) := by decide +kernel
theorem dX8_guardsThatName_14 : decode cX8_guardsThatName 14 = .ok (.iload_n 3, 1) := by decide +kernel
theorem dX8_guardsThatName_15 : decode cX8_guardsThatName 15 = .ok (.invokevirtual 75, 3) := by decide +kernel
theorem dX8_guardsThatName_18 : decode cX8_guardsThatName 18 = .ok (.iload_n 1, 1) := by decide +kernel
theorem dX8_guardsThatName_19 : decode cX8_guardsThatName 19 = .ok (.invokestatic 64, 3) := by decide +kernel
theorem dX8_guardsThatName_22 : decode cX8_guardsThatName 22 = .ok (.iadd, 1) := by decide +kernel
theorem dX8_guardsThatName_23 : decode cX8_guardsThatName 23 = .ok (.istore_n 2, 1) := by decide +kernel
theorem dX8_guardsThatName_24 : decode cX8_guardsThatName 24 = .ok (.iinc 3 1, 3) := by decide +kernel
theorem dX8_guardsThatName_27 : decode cX8_guardsThatName 27 = .ok (.goto (-23), 3) := by decide +kernel
theorem dX8_guardsThatName_30 : decode cX8_guardsThatName 30 = .ok (.iload_n 2, 1) := by decide +kernel
theorem dX8_guardsThatName_31 : decode cX8_guardsThatName 31 = .ok (.ireturn, 1) := by decide +kernel
theorem dX8_effectsThatName_0 : decode cX8_effectsThatName 0 = .ok (.iconst 0, 1) := by decide +kernel
theorem dX8_effectsThatName_1 : decode cX8_effectsThatName 1 = .ok (.istore_n 2, 1) := by decide +kernel
theorem dX8_effectsThatName_2 : decode cX8_effectsThatName 2 = .ok (.iconst 0, 1) := by decide +kernel
theorem dX8_effectsThatName_3 : decode cX8_effectsThatName 3 = .ok (.istore_n 3, 1) := by decide +kernel
theorem dX8_effectsThatName_4 : decode cX8_effectsThatName 4 = .ok (.iload_n 3, 1) := by decide +kernel
theorem dX8_effectsThatName_5 : decode cX8_effectsThatName 5 = .ok (.aload_n 0, 1) := by decide +kernel
theorem dX8_effectsThatName_6 : decode cX8_effectsThatName 6 = .ok (.getfield 42, 3) := by decide +kernel
theorem dX8_effectsThatName_9 : decode cX8_effectsThatName 9 = .ok (.if_icmp .ge 29, 3) := by decide +kernel
theorem dX8_effectsThatName_12 : decode cX8_effectsThatName 12 = .ok (.iload_n 2, 1) := by decide +kernel
theorem dX8_effectsThatName_13 : decode cX8_effectsThatName 13 = .ok (.aload_n 0, 1) := by decide +kernel
theorem dX8_effectsThatName_14 : decode cX8_effectsThatName 14 = .ok (.getfield 30, 3) := by decide +kernel
theorem dX8_effectsThatName_17 : decode cX8_effectsThatName 17 = .ok (.iload_n 3, 1) := by decide +kernel
theorem dX8_effectsThatName_18 : decode cX8_effectsThatName 18 = .ok (.iaload, 1) := by decide +kernel
theorem dX8_effectsThatName_19 : decode cX8_effectsThatName 19 = .ok (.aload_n 0, 1) := by decide +kernel
theorem dX8_effectsThatName_20 : decode cX8_effectsThatName 20 = .ok (.getfield 33, 3) := by decide +kernel
theorem dX8_effectsThatName_23 : decode cX8_effectsThatName 23 = .ok (.iload_n 3, 1) := by decide +kernel
theorem dX8_effectsThatName_24 : decode cX8_effectsThatName 24 = .ok (.iaload, 1) := by decide +kernel
theorem dX8_effectsThatName_25 : decode cX8_effectsThatName 25 = .ok (.ior, 1) := by decide +kernel
theorem dX8_effectsThatName_26 : decode cX8_effectsThatName 26 = .ok (.iload_n 1, 1) := by decide +kernel
theorem dX8_effectsThatName_27 : decode cX8_effectsThatName 27 = .ok (.invokestatic 64, 3) := by decide +kernel
theorem dX8_effectsThatName_30 : decode cX8_effectsThatName 30 = .ok (.iadd, 1) := by decide +kernel
theorem dX8_effectsThatName_31 : decode cX8_effectsThatName 31 = .ok (.istore_n 2, 1) := by decide +kernel
theorem dX8_effectsThatName_32 : decode cX8_effectsThatName 32 = .ok (.iinc 3 1, 3) := by decide +kernel
theorem dX8_effectsThatName_35 : decode cX8_effectsThatName 35 = .ok (.goto (-31), 3) := by decide +kernel
theorem dX8_effectsThatName_38 : decode cX8_effectsThatName 38 = .ok (.iload_n 2, 1) := by decide +kernel
theorem dX8_effectsThatName_39 : decode cX8_effectsThatName 39 = .ok (.ireturn, 1) := by decide +kernel
theorem dX8_marksOfGuard_0 : decode cX8_marksOfGuard 0 = .ok (.iconst 0, 1) := by decide +kernel
theorem dX8_marksOfGuard_1 : decode cX8_marksOfGuard 1 = .ok (.istore_n 2, 1) := by decide +kernel
theorem dX8_marksOfGuard_2 : decode cX8_marksOfGuard 2 = .ok (.iload_n 1, 1) := by decide +kernel
theorem dX8_marksOfGuard_3 : decode cX8_marksOfGuard 3 = .ok (.iconst 3, 1) := by decide +kernel
theorem dX8_marksOfGuard_4 : decode cX8_marksOfGuard 4 = .ok (.imul, 1) := by decide +kernel
theorem dX8_marksOfGuard_5 : decode cX8_marksOfGuard 5 = .ok (.istore_n 3, 1) := by decide +kernel
theorem dX8_marksOfGuard_6 : decode cX8_marksOfGuard 6 = .ok (.iload_n 3, 1) := by decide +kernel
theorem dX8_marksOfGuard_7 : decode cX8_marksOfGuard 7 = .ok (.istore 4, 2) := by decide +kernel
theorem dX8_marksOfGuard_9 : decode cX8_marksOfGuard 9 = .ok (.iload 4, 2) := by decide +kernel
theorem dX8_marksOfGuard_11 : decode cX8_marksOfGuard 11 = .ok (.iload_n 3, 1) := by decide +kernel
theorem dX8_marksOfGuard_12 : decode cX8_marksOfGuard 12 = .ok (.aload_n 0, 1) := by decide +kernel
theorem dX8_marksOfGuard_13 : decode cX8_marksOfGuard 13 = .ok (.getfield 21, 3) := by decide +kernel
theorem dX8_marksOfGuard_16 : decode cX8_marksOfGuard 16 = .ok (.iload_n 1, 1) := by decide +kernel
theorem dX8_marksOfGuard_17 : decode cX8_marksOfGuard 17 = .ok (.iaload, 1) := by decide +kernel
theorem dX8_marksOfGuard_18 : decode cX8_marksOfGuard 18 = .ok (.iadd, 1) := by decide +kernel
theorem dX8_marksOfGuard_19 : decode cX8_marksOfGuard 19 = .ok (.if_icmp .ge 27, 3) := by decide +kernel
theorem dX8_marksOfGuard_22 : decode cX8_marksOfGuard 22 = .ok (.iload_n 2, 1) := by decide +kernel
theorem dX8_marksOfGuard_23 : decode cX8_marksOfGuard 23 = .ok (.aload_n 0, 1) := by decide +kernel
theorem dX8_marksOfGuard_24 : decode cX8_marksOfGuard 24 = .ok (.getfield 24, 3) := by decide +kernel
theorem dX8_marksOfGuard_27 : decode cX8_marksOfGuard 27 = .ok (.iload 4, 2) := by decide +kernel
theorem dX8_marksOfGuard_29 : decode cX8_marksOfGuard 29 = .ok (.iaload, 1) := by decide +kernel
theorem dX8_marksOfGuard_30 : decode cX8_marksOfGuard 30 = .ok (.aload_n 0, 1) := by decide +kernel
theorem dX8_marksOfGuard_31 : decode cX8_marksOfGuard 31 = .ok (.getfield 27, 3) := by decide +kernel
theorem dX8_marksOfGuard_34 : decode cX8_marksOfGuard 34 = .ok (.iload 4, 2) := by decide +kernel
theorem dX8_marksOfGuard_36 : decode cX8_marksOfGuard 36 = .ok (.iaload, 1) := by decide +kernel
theorem dX8_marksOfGuard_37 : decode cX8_marksOfGuard 37 = .ok (.ior, 1) := by decide +kernel
theorem dX8_marksOfGuard_38 : decode cX8_marksOfGuard 38 = .ok (.ior, 1) := by decide +kernel
theorem dX8_marksOfGuard_39 : decode cX8_marksOfGuard 39 = .ok (.istore_n 2, 1) := by decide +kernel
theorem dX8_marksOfGuard_40 : decode cX8_marksOfGuard 40 = .ok (.iinc 4 1, 3) := by decide +kernel
theorem dX8_marksOfGuard_43 : decode cX8_marksOfGuard 43 = .ok (.goto (-34), 3) := by decide +kernel
theorem dX8_marksOfGuard_46 : decode cX8_marksOfGuard 46 = .ok (.iload_n 2, 1) := by decide +kernel
theorem dX8_marksOfGuard_47 : decode cX8_marksOfGuard 47 = .ok (.ireturn, 1) := by decide +kernel
theorem dX9_init_0 : decode cX9_init 0 = .ok (.aload_n 0, 1) := by decide +kernel
theorem dX9_init_1 : decode cX9_init 1 = .ok (.invokespecial 3, 3) := by decide +kernel
theorem dX9_init_4 : decode cX9_init 4 = .ok (.aload_n 0, 1) := by decide +kernel
theorem dX9_init_5 : decode cX9_init 5 = .ok (.sipush 1024, 3) := by decide +kernel
theorem dX9_init_8 : decode cX9_init 8 = .ok (.newarray .int, 2) := by decide +kernel
theorem dX9_init_10 : decode cX9_init 10 = .ok (.putfield 9, 3) := by decide +kernel
theorem dX9_init_13 : decode cX9_init 13 = .ok (.aload_n 0, 1) := by decide +kernel
theorem dX9_init_14 : decode cX9_init 14 = .ok (.sipush 1024, 3) := by decide +kernel
theorem dX9_init_17 : decode cX9_init 17 = .ok (.newarray .int, 2) := by decide +kernel
theorem dX9_init_19 : decode cX9_init 19 = .ok (.putfield 15, 3) := by decide +kernel
theorem dX9_init_22 : decode cX9_init 22 = .ok (.return_, 1) := by decide +kernel
theorem dX9_startAt_0 : decode cX9_startAt 0 = .ok (.aload_n 0, 1) := by decide +kernel
theorem dX9_startAt_1 : decode cX9_startAt 1 = .ok (.getfield 15, 3) := by decide +kernel
theorem dX9_startAt_4 : decode cX9_startAt 4 = .ok (.iconst (-1), 1) := by decide +kernel
theorem dX9_startAt_5 : decode cX9_startAt 5 = .ok (.invokestatic 18, 3) := by decide +kernel
theorem dX9_startAt_8 : decode cX9_startAt 8 = .ok (.aload_n 0, 1) := by decide +kernel
theorem dX9_startAt_9 : decode cX9_startAt 9 = .ok (.iconst 0, 1) := by decide +kernel
theorem dX9_startAt_10 : decode cX9_startAt 10 = .ok (.putfield 24, 3) := by decide +kernel
theorem dX9_startAt_13 : decode cX9_startAt 13 = .ok (.aload_n 0, 1) := by decide +kernel
theorem dX9_startAt_14 : decode cX9_startAt 14 = .ok (.iload_n 1, 1) := by decide +kernel
theorem dX9_startAt_15 : decode cX9_startAt 15 = .ok (.iconst 0, 1) := by decide +kernel
theorem dX9_startAt_16 : decode cX9_startAt 16 = .ok (.invokevirtual 28, 3) := by decide +kernel
theorem dX9_startAt_19 : decode cX9_startAt 19 = .ok (.return_, 1) := by decide +kernel
theorem dX9_enqueue_0 : decode cX9_enqueue 0 = .ok (.aload_n 0, 1) := by decide +kernel
theorem dX9_enqueue_1 : decode cX9_enqueue 1 = .ok (.getfield 15, 3) := by decide +kernel
theorem dX9_enqueue_4 : decode cX9_enqueue 4 = .ok (.iload_n 1, 1) := by decide +kernel
theorem dX9_enqueue_5 : decode cX9_enqueue 5 = .ok (.iaload, 1) := by decide +kernel
theorem dX9_enqueue_6 : decode cX9_enqueue 6 = .ok (.iconst (-1), 1) := by decide +kernel
theorem dX9_enqueue_7 : decode cX9_enqueue 7 = .ok (.if_icmp .ne 40, 3) := by decide +kernel
theorem dX9_enqueue_10 : decode cX9_enqueue 10 = .ok (.aload_n 0, 1) := by decide +kernel
theorem dX9_enqueue_11 : decode cX9_enqueue 11 = .ok (.getfield 24, 3) := by decide +kernel
theorem dX9_enqueue_14 : decode cX9_enqueue 14 = .ok (.sipush 1024, 3) := by decide +kernel
theorem dX9_enqueue_17 : decode cX9_enqueue 17 = .ok (.if_icmp .ge 30, 3) := by decide +kernel
theorem dX9_enqueue_20 : decode cX9_enqueue 20 = .ok (.aload_n 0, 1) := by decide +kernel
theorem dX9_enqueue_21 : decode cX9_enqueue 21 = .ok (.getfield 15, 3) := by decide +kernel
theorem dX9_enqueue_24 : decode cX9_enqueue 24 = .ok (.iload_n 1, 1) := by decide +kernel
theorem dX9_enqueue_25 : decode cX9_enqueue 25 = .ok (.iload_n 2, 1) := by decide +kernel
theorem dX9_enqueue_26 : decode cX9_enqueue 26 = .ok (.iastore, 1) := by decide +kernel
theorem dX9_enqueue_27 : decode cX9_enqueue 27 = .ok (.aload_n 0, 1) := by decide +kernel
theorem dX9_enqueue_28 : decode cX9_enqueue 28 = .ok (.getfield 9, 3) := by decide +kernel
theorem dX9_enqueue_31 : decode cX9_enqueue 31 = .ok (.aload_n 0, 1) := by decide +kernel
theorem dX9_enqueue_32 : decode cX9_enqueue 32 = .ok (.getfield 24, 3) := by decide +kernel
theorem dX9_enqueue_35 : decode cX9_enqueue 35 = .ok (.iload_n 1, 1) := by decide +kernel
theorem dX9_enqueue_36 : decode cX9_enqueue 36 = .ok (.iastore, 1) := by decide +kernel
theorem dX9_enqueue_37 : decode cX9_enqueue 37 = .ok (.aload_n 0, 1) := by decide +kernel
theorem dX9_enqueue_38 : decode cX9_enqueue 38 = .ok (.dup, 1) := by decide +kernel
theorem dX9_enqueue_39 : decode cX9_enqueue 39 = .ok (.getfield 24, 3) := by decide +kernel
theorem dX9_enqueue_42 : decode cX9_enqueue 42 = .ok (.iconst 1, 1) := by decide +kernel
theorem dX9_enqueue_43 : decode cX9_enqueue 43 = .ok (.iadd, 1) := by decide +kernel
theorem dX9_enqueue_44 : decode cX9_enqueue 44 = .ok (.putfield 24, 3) := by decide +kernel
theorem dX9_enqueue_47 : decode cX9_enqueue 47 = .ok (.return_, 1) := by decide +kernel
theorem dX9_comesTo_0 : decode cX9_comesTo 0 = .ok (.aload_n 0, 1) := by decide +kernel
theorem dX9_comesTo_1 : decode cX9_comesTo 1 = .ok (.iconst 0, 1) := by decide +kernel
theorem dX9_comesTo_2 : decode cX9_comesTo 2 = .ok (.invokevirtual 32, 3) := by decide +kernel
theorem dX9_comesTo_5 : decode cX9_comesTo 5 = .ok (.iconst 0, 1) := by decide +kernel
theorem dX9_comesTo_6 : decode cX9_comesTo 6 = .ok (.istore 4, 2) := by decide +kernel
theorem dX9_comesTo_8 : decode cX9_comesTo 8 = .ok (.iload 4, 2) := by decide +kernel
theorem dX9_comesTo_10 : decode cX9_comesTo 10 = .ok (.sipush 1024, 3) := by decide +kernel
theorem dX9_comesTo_13 : decode cX9_comesTo 13 = .ok (.if_icmp .ge 102, 3) := by decide +kernel
theorem dX9_comesTo_16 : decode cX9_comesTo 16 = .ok (.iload 4, 2) := by decide +kernel
theorem dX9_comesTo_18 : decode cX9_comesTo 18 = .ok (.aload_n 0, 1) := by decide +kernel
theorem dX9_comesTo_19 : decode cX9_comesTo 19 = .ok (.getfield 24, 3) := by decide +kernel
theorem dX9_comesTo_22 : decode cX9_comesTo 22 = .ok (.if_icmp .ge 93, 3) := by decide +kernel
theorem dX9_comesTo_25 : decode cX9_comesTo 25 = .ok (.aload_n 0, 1) := by decide +kernel
theorem dX9_comesTo_26 : decode cX9_comesTo 26 = .ok (.getfield 9, 3) := by decide +kernel
theorem dX9_comesTo_29 : decode cX9_comesTo 29 = .ok (.iload 4, 2) := by decide +kernel
theorem dX9_comesTo_31 : decode cX9_comesTo 31 = .ok (.iaload, 1) := by decide +kernel
theorem dX9_comesTo_32 : decode cX9_comesTo 32 = .ok (.istore 5, 2) := by decide +kernel
theorem dX9_comesTo_34 : decode cX9_comesTo 34 = .ok (.aload_n 1, 1) := by decide +kernel
theorem dX9_comesTo_35 : decode cX9_comesTo 35 = .ok (.iload 5, 2) := by decide +kernel
theorem dX9_comesTo_37 : decode cX9_comesTo 37 = .ok (.invokevirtual 36, 3) := by decide +kernel
theorem dX9_comesTo_40 : decode cX9_comesTo 40 = .ok (.iload_n 2, 1) := by decide +kernel
theorem dX9_comesTo_41 : decode cX9_comesTo 41 = .ok (.if_icmp .ne 5, 3) := by decide +kernel
theorem dX9_comesTo_44 : decode cX9_comesTo 44 = .ok (.iconst 1, 1) := by decide +kernel
theorem dX9_comesTo_45 : decode cX9_comesTo 45 = .ok (.ireturn, 1) := by decide +kernel
theorem dX9_comesTo_46 : decode cX9_comesTo 46 = .ok (.aload_n 1, 1) := by decide +kernel
theorem dX9_comesTo_47 : decode cX9_comesTo 47 = .ok (.getfield 42, 3) := by decide +kernel
theorem dX9_comesTo_50 : decode cX9_comesTo 50 = .ok (.iload 5, 2) := by decide +kernel
theorem dX9_comesTo_52 : decode cX9_comesTo 52 = .ok (.iaload, 1) := by decide +kernel
theorem dX9_comesTo_53 : decode cX9_comesTo 53 = .ok (.istore 6, 2) := by decide +kernel
theorem dX9_comesTo_55 : decode cX9_comesTo 55 = .ok (.iload 6, 2) := by decide +kernel
theorem dX9_comesTo_57 : decode cX9_comesTo 57 = .ok (.aload_n 1, 1) := by decide +kernel
theorem dX9_comesTo_58 : decode cX9_comesTo 58 = .ok (.getfield 42, 3) := by decide +kernel
theorem dX9_comesTo_61 : decode cX9_comesTo 61 = .ok (.iload 5, 2) := by decide +kernel
theorem dX9_comesTo_63 : decode cX9_comesTo 63 = .ok (.iconst 1, 1) := by decide +kernel
theorem dX9_comesTo_64 : decode cX9_comesTo 64 = .ok (.iadd, 1) := by decide +kernel
theorem dX9_comesTo_65 : decode cX9_comesTo 65 = .ok (.iaload, 1) := by decide +kernel
theorem dX9_comesTo_66 : decode cX9_comesTo 66 = .ok (.if_icmp .ge 43, 3) := by decide +kernel
theorem dX9_comesTo_69 : decode cX9_comesTo 69 = .ok (.iload_n 3, 1) := by decide +kernel
theorem dX9_comesTo_70 : decode cX9_comesTo 70 = .ok (.aload_n 1, 1) := by decide +kernel
theorem dX9_comesTo_71 : decode cX9_comesTo 71 = .ok (.getfield 45, 3) := by decide +kernel
theorem dX9_comesTo_74 : decode cX9_comesTo 74 = .ok (.iload 6, 2) := by decide +kernel
theorem dX9_comesTo_76 : decode cX9_comesTo 76 = .ok (.iaload, 1) := by decide +kernel
theorem dX9_comesTo_77 : decode cX9_comesTo 77 = .ok (.invokestatic 48, 3) := by decide +kernel
theorem dX9_comesTo_80 : decode cX9_comesTo 80 = .ok (.ifCond .ne 23, 3) := by decide +kernel
theorem dX9_comesTo_83 : decode cX9_comesTo 83 = .ok (.aload_n 0, 1) := by decide +kernel
theorem dX9_comesTo_84 : decode cX9_comesTo 84 = .ok (.aload_n 1, 1) := by decide +kernel
theorem dX9_comesTo_85 : decode cX9_comesTo 85 = .ok (.getfield 52, 3) := by decide +kernel
theorem dX9_comesTo_88 : decode cX9_comesTo 88 = .ok (.iload 6, 2) := by decide +kernel
theorem dX9_comesTo_90 : decode cX9_comesTo 90 = .ok (.iaload, 1) := by decide +kernel
theorem dX9_comesTo_91 : decode cX9_comesTo 91 = .ok (.aload_n 0, 1) := by decide +kernel
theorem dX9_comesTo_92 : decode cX9_comesTo 92 = .ok (.getfield 15, 3) := by decide +kernel
theorem dX9_comesTo_95 : decode cX9_comesTo 95 = .ok (.iload 5, 2) := by decide +kernel
theorem dX9_comesTo_97 : decode cX9_comesTo 97 = .ok (.iaload, 1) := by decide +kernel
theorem dX9_comesTo_98 : decode cX9_comesTo 98 = .ok (.iconst 1, 1) := by decide +kernel
theorem dX9_comesTo_99 : decode cX9_comesTo 99 = .ok (.iadd, 1) := by decide +kernel
theorem dX9_comesTo_100 : decode cX9_comesTo 100 = .ok (.invokevirtual 28, 3) := by decide +kernel
theorem dX9_comesTo_103 : decode cX9_comesTo 103 = .ok (.iinc 6 1, 3) := by decide +kernel
theorem dX9_comesTo_106 : decode cX9_comesTo 106 = .ok (.goto (-51), 3) := by decide +kernel
theorem dX9_comesTo_109 : decode cX9_comesTo 109 = .ok (.iinc 4 1, 3) := by decide +kernel
theorem dX9_comesTo_112 : decode cX9_comesTo 112 = .ok (.goto (-104), 3) := by decide +kernel
theorem dX9_comesTo_115 : decode cX9_comesTo 115 = .ok (.iconst 0, 1) := by decide +kernel
theorem dX9_comesTo_116 : decode cX9_comesTo 116 = .ok (.ireturn, 1) := by decide +kernel
theorem dX9_shortestLoop_0 : decode cX9_shortestLoop 0 = .ok (.aload_n 0, 1) := by decide +kernel
theorem dX9_shortestLoop_1 : decode cX9_shortestLoop 1 = .ok (.iload_n 2, 1) := by decide +kernel
theorem dX9_shortestLoop_2 : decode cX9_shortestLoop 2 = .ok (.invokevirtual 32, 3) := by decide +kernel
theorem dX9_shortestLoop_5 : decode cX9_shortestLoop 5 = .ok (.iconst 0, 1) := by decide +kernel
theorem dX9_shortestLoop_6 : decode cX9_shortestLoop 6 = .ok (.istore 4, 2) := by decide +kernel
theorem dX9_shortestLoop_8 : decode cX9_shortestLoop 8 = .ok (.iload 4, 2) := by decide +kernel
theorem dX9_shortestLoop_10 : decode cX9_shortestLoop 10 = .ok (.sipush 1024, 3) := by decide +kernel
theorem dX9_shortestLoop_13 : decode cX9_shortestLoop 13 = .ok (.if_icmp .ge 102, 3) := by decide +kernel
theorem dX9_shortestLoop_16 : decode cX9_shortestLoop 16 = .ok (.iload 4, 2) := by decide +kernel
theorem dX9_shortestLoop_18 : decode cX9_shortestLoop 18 = .ok (.aload_n 0, 1) := by decide +kernel
theorem dX9_shortestLoop_19 : decode cX9_shortestLoop 19 = .ok (.getfield 24, 3) := by decide +kernel
theorem dX9_shortestLoop_22 : decode cX9_shortestLoop 22 = .ok (.if_icmp .ge 93, 3) := by decide +kernel
theorem dX9_shortestLoop_25 : decode cX9_shortestLoop 25 = .ok (.aload_n 0, 1) := by decide +kernel
theorem dX9_shortestLoop_26 : decode cX9_shortestLoop 26 = .ok (.getfield 9, 3) := by decide +kernel
theorem dX9_shortestLoop_29 : decode cX9_shortestLoop 29 = .ok (.iload 4, 2) := by decide +kernel
theorem dX9_shortestLoop_31 : decode cX9_shortestLoop 31 = .ok (.iaload, 1) := by decide +kernel
theorem dX9_shortestLoop_32 : decode cX9_shortestLoop 32 = .ok (.istore 5, 2) := by decide +kernel
theorem dX9_shortestLoop_34 : decode cX9_shortestLoop 34 = .ok (.aload_n 0, 1) := by decide +kernel
theorem dX9_shortestLoop_35 : decode cX9_shortestLoop 35 = .ok (.getfield 15, 3) := by decide +kernel
theorem dX9_shortestLoop_38 : decode cX9_shortestLoop 38 = .ok (.iload 5, 2) := by decide +kernel
theorem dX9_shortestLoop_40 : decode cX9_shortestLoop 40 = .ok (.iaload, 1) := by decide +kernel
theorem dX9_shortestLoop_41 : decode cX9_shortestLoop 41 = .ok (.iconst 1, 1) := by decide +kernel
theorem dX9_shortestLoop_42 : decode cX9_shortestLoop 42 = .ok (.iadd, 1) := by decide +kernel
theorem dX9_shortestLoop_43 : decode cX9_shortestLoop 43 = .ok (.istore 6, 2) := by decide +kernel
theorem dX9_shortestLoop_45 : decode cX9_shortestLoop 45 = .ok (.iload 6, 2) := by decide +kernel
theorem dX9_shortestLoop_47 : decode cX9_shortestLoop 47 = .ok (.iload_n 3, 1) := by decide +kernel
theorem dX9_shortestLoop_48 : decode cX9_shortestLoop 48 = .ok (.if_icmp .lt 5, 3) := by decide +kernel
theorem dX9_shortestLoop_51 : decode cX9_shortestLoop 51 = .ok (.iload_n 3, 1) := by decide +kernel
theorem dX9_shortestLoop_52 : decode cX9_shortestLoop 52 = .ok (.ireturn, 1) := by decide +kernel
theorem dX9_shortestLoop_53 : decode cX9_shortestLoop 53 = .ok (.aload_n 1, 1) := by decide +kernel
theorem dX9_shortestLoop_54 : decode cX9_shortestLoop 54 = .ok (.getfield 42, 3) := by decide +kernel
theorem dX9_shortestLoop_57 : decode cX9_shortestLoop 57 = .ok (.iload 5, 2) := by decide +kernel
theorem dX9_shortestLoop_59 : decode cX9_shortestLoop 59 = .ok (.iaload, 1) := by decide +kernel
theorem dX9_shortestLoop_60 : decode cX9_shortestLoop 60 = .ok (.istore 7, 2) := by decide +kernel
theorem dX9_shortestLoop_62 : decode cX9_shortestLoop 62 = .ok (.iload 7, 2) := by decide +kernel
theorem dX9_shortestLoop_64 : decode cX9_shortestLoop 64 = .ok (.aload_n 1, 1) := by decide +kernel
theorem dX9_shortestLoop_65 : decode cX9_shortestLoop 65 = .ok (.getfield 42, 3) := by decide +kernel
theorem dX9_shortestLoop_68 : decode cX9_shortestLoop 68 = .ok (.iload 5, 2) := by decide +kernel
theorem dX9_shortestLoop_70 : decode cX9_shortestLoop 70 = .ok (.iconst 1, 1) := by decide +kernel
theorem dX9_shortestLoop_71 : decode cX9_shortestLoop 71 = .ok (.iadd, 1) := by decide +kernel
theorem dX9_shortestLoop_72 : decode cX9_shortestLoop 72 = .ok (.iaload, 1) := by decide +kernel
theorem dX9_shortestLoop_73 : decode cX9_shortestLoop 73 = .ok (.if_icmp .ge 36, 3) := by decide +kernel
theorem dX9_shortestLoop_76 : decode cX9_shortestLoop 76 = .ok (.aload_n 1, 1) := by decide +kernel
theorem dX9_shortestLoop_77 : decode cX9_shortestLoop 77 = .ok (.getfield 52, 3) := by decide +kernel
theorem dX9_shortestLoop_80 : decode cX9_shortestLoop 80 = .ok (.iload 7, 2) := by decide +kernel
theorem dX9_shortestLoop_82 : decode cX9_shortestLoop 82 = .ok (.iaload, 1) := by decide +kernel
theorem dX9_shortestLoop_83 : decode cX9_shortestLoop 83 = .ok (.iload_n 2, 1) := by decide +kernel
theorem dX9_shortestLoop_84 : decode cX9_shortestLoop 84 = .ok (.if_icmp .ne 6, 3) := by decide +kernel
theorem dX9_shortestLoop_87 : decode cX9_shortestLoop 87 = .ok (.iload 6, 2) := by decide +kernel
theorem dX9_shortestLoop_89 : decode cX9_shortestLoop 89 = .ok (.ireturn, 1) := by decide +kernel
theorem dX9_shortestLoop_90 : decode cX9_shortestLoop 90 = .ok (.aload_n 0, 1) := by decide +kernel
theorem dX9_shortestLoop_91 : decode cX9_shortestLoop 91 = .ok (.aload_n 1, 1) := by decide +kernel
theorem dX9_shortestLoop_92 : decode cX9_shortestLoop 92 = .ok (.getfield 52, 3) := by decide +kernel
theorem dX9_shortestLoop_95 : decode cX9_shortestLoop 95 = .ok (.iload 7, 2) := by decide +kernel
theorem dX9_shortestLoop_97 : decode cX9_shortestLoop 97 = .ok (.iaload, 1) := by decide +kernel
theorem dX9_shortestLoop_98 : decode cX9_shortestLoop 98 = .ok (.iload 6, 2) := by decide +kernel
theorem dX9_shortestLoop_100 : decode cX9_shortestLoop 100 = .ok (.invokevirtual 28, 3) := by decide +kernel
theorem dX9_shortestLoop_103 : decode cX9_shortestLoop 103 = .ok (.iinc 7 1, 3) := by decide +kernel
theorem dX9_shortestLoop_106 : decode cX9_shortestLoop 106 = .ok (.goto (-44), 3) := by decide +kernel
theorem dX9_shortestLoop_109 : decode cX9_shortestLoop 109 = .ok (.iinc 4 1, 3) := by decide +kernel
theorem dX9_shortestLoop_112 : decode cX9_shortestLoop 112 = .ok (.goto (-104), 3) := by decide +kernel
theorem dX9_shortestLoop_115 : decode cX9_shortestLoop 115 = .ok (.iload_n 3, 1) := by decide +kernel
theorem dX9_shortestLoop_116 : decode cX9_shortestLoop 116 = .ok (.ireturn, 1) := by decide +kernel
theorem dX10_init_0 : decode cX10_init 0 = .ok (.aload_n 0, 1) := by decide +kernel
theorem dX10_init_1 : decode cX10_init 1 = .ok (.invokespecial 1, 3) := by decide +kernel
theorem dX10_init_4 : decode cX10_init 4 = .ok (.aload_n 0, 1) := by decide +kernel
theorem dX10_init_5 : decode cX10_init 5 = .ok (.new 7, 3) := by decide +kernel
theorem dX10_init_8 : decode cX10_init 8 = .ok (.dup, 1) := by decide +kernel
theorem dX10_init_9 : decode cX10_init 9 = .ok (.invokespecial 9, 3) := by decide +kernel
theorem dX10_init_12 : decode cX10_init 12 = .ok (.putfield 10, 3) := by decide +kernel
theorem dX10_init_15 : decode cX10_init 15 = .ok (.aload_n 0, 1) := by decide +kernel
theorem dX10_init_16 : decode cX10_init 16 = .ok (.new 16, 3) := by decide +kernel
theorem dX10_init_19 : decode cX10_init 19 = .ok (.dup, 1) := by decide +kernel
theorem dX10_init_20 : decode cX10_init 20 = .ok (.invokespecial 18, 3) := by decide +kernel
theorem dX10_init_23 : decode cX10_init 23 = .ok (.putfield 19, 3) := by decide +kernel
theorem dX10_init_26 : decode cX10_init 26 = .ok (.aload_n 0, 1) := by decide +kernel
theorem dX10_init_27 : decode cX10_init 27 = .ok (.new 23, 3) := by decide +kernel
theorem dX10_init_30 : decode cX10_init 30 = .ok (.dup, 1) := by decide +kernel
theorem dX10_init_31 : decode cX10_init 31 = .ok (.invokespecial 25, 3) := by decide +kernel
theorem dX10_init_34 : decode cX10_init 34 = .ok (.putfield 26, 3) := by decide +kernel
theorem dX10_init_37 : decode cX10_init 37 = .ok (.aload_n 0, 1) := by decide +kernel
theorem dX10_init_38 : decode cX10_init 38 = .ok (.new 30, 3) := by decide +kernel
theorem dX10_init_41 : decode cX10_init 41 = .ok (.dup, 1) := by decide +kernel
theorem dX10_init_42 : decode cX10_init 42 = .ok (.invokespecial 32, 3) := by decide +kernel
theorem dX10_init_45 : decode cX10_init 45 = .ok (.putfield 33, 3) := by decide +kernel
theorem dX10_init_48 : decode cX10_init 48 = .ok (.aload_n 0, 1) := by decide +kernel
theorem dX10_init_49 : decode cX10_init 49 = .ok (.new 37, 3) := by decide +kernel
theorem dX10_init_52 : decode cX10_init 52 = .ok (.dup, 1) := by decide +kernel
theorem dX10_init_53 : decode cX10_init 53 = .ok (.invokespecial 39, 3) := by decide +kernel
theorem dX10_init_56 : decode cX10_init 56 = .ok (.putfield 40, 3) := by decide +kernel
theorem dX10_init_59 : decode cX10_init 59 = .ok (.aload_n 0, 1) := by decide +kernel
theorem dX10_init_60 : decode cX10_init 60 = .ok (.new 44, 3) := by decide +kernel
theorem dX10_init_63 : decode cX10_init 63 = .ok (.dup, 1) := by decide +kernel
theorem dX10_init_64 : decode cX10_init 64 = .ok (.invokespecial 46, 3) := by decide +kernel
theorem dX10_init_67 : decode cX10_init 67 = .ok (.putfield 47, 3) := by decide +kernel
theorem dX10_init_70 : decode cX10_init 70 = .ok (.aload_n 0, 1) := by decide +kernel
theorem dX10_init_71 : decode cX10_init 71 = .ok (.new 51, 3) := by decide +kernel
theorem dX10_init_74 : decode cX10_init 74 = .ok (.dup, 1) := by decide +kernel
theorem dX10_init_75 : decode cX10_init 75 = .ok (.invokespecial 53, 3) := by decide +kernel
theorem dX10_init_78 : decode cX10_init 78 = .ok (.putfield 54, 3) := by decide +kernel
theorem dX10_init_81 : decode cX10_init 81 = .ok (.aload_n 0, 1) := by decide +kernel
theorem dX10_init_82 : decode cX10_init 82 = .ok (.new 58, 3) := by decide +kernel
theorem dX10_init_85 : decode cX10_init 85 = .ok (.dup, 1) := by decide +kernel
theorem dX10_init_86 : decode cX10_init 86 = .ok (.invokespecial 60, 3) := by decide +kernel
theorem dX10_init_89 : decode cX10_init 89 = .ok (.putfield 61, 3) := by decide +kernel
theorem dX10_init_92 : decode cX10_init 92 = .ok (.aload_n 0, 1) := by decide +kernel
theorem dX10_init_93 : decode cX10_init 93 = .ok (.new 65, 3) := by decide +kernel
theorem dX10_init_96 : decode cX10_init 96 = .ok (.dup, 1) := by decide +kernel
theorem dX10_init_97 : decode cX10_init 97 = .ok (.invokespecial 67, 3) := by decide +kernel
theorem dX10_init_100 : decode cX10_init 100 = .ok (.putfield 68, 3) := by decide +kernel
theorem dX10_init_103 : decode cX10_init 103 = .ok (.aload_n 0, 1) := by decide +kernel
theorem dX10_init_104 : decode cX10_init 104 = .ok (.new 72, 3) := by decide +kernel
theorem dX10_init_107 : decode cX10_init 107 = .ok (.dup, 1) := by decide +kernel
theorem dX10_init_108 : decode cX10_init 108 = .ok (.invokespecial 74, 3) := by decide +kernel
theorem dX10_init_111 : decode cX10_init 111 = .ok (.putfield 75, 3) := by decide +kernel
theorem dX10_init_114 : decode cX10_init 114 = .ok (.aload_n 0, 1) := by decide +kernel
theorem dX10_init_115 : decode cX10_init 115 = .ok (.new 72, 3) := by decide +kernel
theorem dX10_init_118 : decode cX10_init 118 = .ok (.dup, 1) := by decide +kernel
theorem dX10_init_119 : decode cX10_init 119 = .ok (.invokespecial 74, 3) := by decide +kernel
theorem dX10_init_122 : decode cX10_init 122 = .ok (.putfield 79, 3) := by decide +kernel
theorem dX10_init_125 : decode cX10_init 125 = .ok (.return_, 1) := by decide +kernel
theorem dX10_write_0 : decode cX10_write 0 = .ok (.iload_n 1, 1) := by decide +kernel
theorem dX10_write_1 : decode cX10_write 1 = .ok (.ifCond .lt 10, 3) := by decide +kernel
theorem dX10_write_4 : decode cX10_write 4 = .ok (.iload_n 1, 1) := by decide +kernel
theorem dX10_write_5 : decode cX10_write 5 = .ok (.sipush 255, 3) := by decide +kernel
theorem dX10_write_8 : decode cX10_write 8 = .ok (.if_icmp .le 6, 3) := by decide +kernel
theorem dX10_write_11 : decode cX10_write 11 = .ok (.ldc 82, 2) := by decide +kernel
theorem dX10_write_13 : decode cX10_write 13 = .ok (.ireturn, 1) := by decide +kernel
theorem dX10_write_14 : decode cX10_write 14 = .ok (.aload_n 0, 1) := by decide +kernel
theorem dX10_write_15 : decode cX10_write 15 = .ok (.getfield 10, 3) := by decide +kernel
theorem dX10_write_18 : decode cX10_write 18 = .ok (.iload_n 1, 1) := by decide +kernel
theorem dX10_write_19 : decode cX10_write 19 = .ok (.invokevirtual 83, 3) := by decide +kernel
theorem dX10_write_22 : decode cX10_write 22 = .ok (.ifCond .eq 13, 3) := by decide +kernel
theorem dX10_write_25 : decode cX10_write 25 = .ok (.aload_n 0, 1) := by decide +kernel
theorem dX10_write_26 : decode cX10_write 26 = .ok (.getfield 10, 3) := by decide +kernel
theorem dX10_write_29 : decode cX10_write 29 = .ok (.getfield 87, 3) := by decide +kernel
theorem dX10_write_32 : decode cX10_write 32 = .ok (.goto 5, 3) := by decide +kernel
theorem dX10_write_35 : decode cX10_write 35 = .ok (.ldc 91, 2) := by decide +kernel
theorem dX10_write_37 : decode cX10_write 37 = .ok (.ireturn, 1) := by decide +kernel
theorem dX10_talk_0 : decode cX10_talk 0 = .ok (.aload_n 0, 1) := by decide +kernel
theorem dX10_talk_1 : decode cX10_talk 1 = .ok (.getfield 10, 3) := by decide +kernel
theorem dX10_talk_4 : decode cX10_talk 4 = .ok (.aload_n 0, 1) := by decide +kernel
theorem dX10_talk_5 : decode cX10_talk 5 = .ok (.getfield 79, 3) := by decide +kernel
theorem dX10_talk_8 : decode cX10_talk 8 = .ok (.invokevirtual 92, 3) := by decide +kernel
theorem dX10_talk_11 : decode cX10_talk 11 = .ok (.istore_n 1, 1) := by decide +kernel
theorem dX10_talk_12 : decode cX10_talk 12 = .ok (.iload_n 1, 1) := by decide +kernel
theorem dX10_talk_13 : decode cX10_talk 13 = .ok (.iconst (-1), 1) := by decide +kernel
theorem dX10_talk_14 : decode cX10_talk 14 = .ok (.if_icmp .eq 8, 3) := by decide +kernel
theorem dX10_talk_17 : decode cX10_talk 17 = .ok (.bipush (-100), 2) := by decide +kernel
theorem dX10_talk_19 : decode cX10_talk 19 = .ok (.iload_n 1, 1) := by decide +kernel
theorem dX10_talk_20 : decode cX10_talk 20 = .ok (.isub, 1) := by decide +kernel
theorem dX10_talk_21 : decode cX10_talk 21 = .ok (.ireturn, 1) := by decide +kernel
theorem dX10_talk_22 : decode cX10_talk 22 = .ok (.aload_n 0, 1) := by decide +kernel
theorem dX10_talk_23 : decode cX10_talk 23 = .ok (.getfield 75, 3) := by decide +kernel
theorem dX10_talk_26 : decode cX10_talk 26 = .ok (.astore_n 2, 1) := by decide +kernel
theorem dX10_talk_27 : decode cX10_talk 27 = .ok (.aload_n 0, 1) := by decide +kernel
theorem dX10_talk_28 : decode cX10_talk 28 = .ok (.aload_n 0, 1) := by decide +kernel
theorem dX10_talk_29 : decode cX10_talk 29 = .ok (.getfield 79, 3) := by decide +kernel
theorem dX10_talk_32 : decode cX10_talk 32 = .ok (.putfield 75, 3) := by decide +kernel
theorem dX10_talk_35 : decode cX10_talk 35 = .ok (.aload_n 0, 1) := by decide +kernel
theorem dX10_talk_36 : decode cX10_talk 36 = .ok (.aload_n 2, 1) := by decide +kernel
theorem dX10_talk_37 : decode cX10_talk 37 = .ok (.putfield 79, 3) := by decide +kernel
theorem dX10_talk_40 : decode cX10_talk 40 = .ok (.aload_n 0, 1) := by decide +kernel
theorem dX10_talk_41 : decode cX10_talk 41 = .ok (.iconst 1, 1) := by decide +kernel
theorem dX10_talk_42 : decode cX10_talk 42 = .ok (.putfield 96, 3) := by decide +kernel
theorem dX10_talk_45 : decode cX10_talk 45 = .ok (.aload_n 0, 1) := by decide +kernel
theorem dX10_talk_46 : decode cX10_talk 46 = .ok (.getfield 26, 3) := by decide +kernel
theorem dX10_talk_49 : decode cX10_talk 49 = .ok (.iconst 0, 1) := by decide +kernel
theorem dX10_talk_50 : decode cX10_talk 50 = .ok (.putfield 100, 3) := by decide +kernel
theorem dX10_talk_53 : decode cX10_talk 53 = .ok (.aload_n 0, 1) := by decide +kernel
theorem dX10_talk_54 : decode cX10_talk 54 = .ok (.getfield 19, 3) := by decide +kernel
theorem dX10_talk_57 : decode cX10_talk 57 = .ok (.iconst 0, 1) := by decide +kernel
theorem dX10_talk_58 : decode cX10_talk 58 = .ok (.invokevirtual 101, 3) := by decide +kernel
theorem dX10_talk_61 : decode cX10_talk 61 = .ok (.aload_n 0, 1) := by decide +kernel
theorem dX10_talk_62 : decode cX10_talk 62 = .ok (.iconst 0, 1) := by decide +kernel
theorem dX10_talk_63 : decode cX10_talk 63 = .ok (.putfield 105, 3) := by decide +kernel
theorem dX10_talk_66 : decode cX10_talk 66 = .ok (.aload_n 0, 1) := by decide +kernel
theorem dX10_talk_67 : decode cX10_talk 67 = .ok (.getfield 75, 3) := by decide +kernel
theorem dX10_talk_70 : decode cX10_talk 70 = .ok (.getfield 108, 3) := by decide +kernel
theorem dX10_talk_73 : decode cX10_talk 73 = .ok (.ireturn, 1) := by decide +kernel
theorem dX10_fault_0 : decode cX10_fault 0 = .ok (.aload_n 0, 1) := by decide +kernel
theorem dX10_fault_1 : decode cX10_fault 1 = .ok (.getfield 10, 3) := by decide +kernel
theorem dX10_fault_4 : decode cX10_fault 4 = .ok (.getfield 111, 3) := by decide +kernel
theorem dX10_fault_7 : decode cX10_fault 7 = .ok (.ireturn, 1) := by decide +kernel
theorem dX10_begin_0 : decode cX10_begin 0 = .ok (.aload_n 0, 1) := by decide +kernel
theorem dX10_begin_1 : decode cX10_begin 1 = .ok (.getfield 96, 3) := by decide +kernel
theorem dX10_begin_4 : decode cX10_begin 4 = .ok (.ifCond .ne 6, 3) := by decide +kernel
theorem dX10_begin_7 : decode cX10_begin 7 = .ok (.ldc 114, 2) := by decide +kernel
theorem dX10_begin_9 : decode cX10_begin 9 = .ok (.ireturn, 1) := by decide +kernel
theorem dX10_begin_10 : decode cX10_begin 10 = .ok (.iload_n 1, 1) := by decide +kernel
theorem dX10_begin_11 : decode cX10_begin 11 = .ok (.ifCond .lt 9, 3) := by decide +kernel
theorem dX10_begin_14 : decode cX10_begin 14 = .ok (.iload_n 1, 1) := by decide +kernel
theorem dX10_begin_15 : decode cX10_begin 15 = .ok (.bipush 64, 2) := by decide +kernel
theorem dX10_begin_17 : decode cX10_begin 17 = .ok (.if_icmp .lt 6, 3) := by decide +kernel
theorem dX10_begin_20 : decode cX10_begin 20 = .ok (.ldc 82, 2) := by decide +kernel
theorem dX10_begin_22 : decode cX10_begin 22 = .ok (.ireturn, 1) := by decide +kernel
theorem dX10_begin_23 : decode cX10_begin 23 = .ok (.aload_n 0, 1) := by decide +kernel
theorem dX10_begin_24 : decode cX10_begin 24 = .ok (.getfield 19, 3) := by decide +kernel
theorem dX10_begin_27 : decode cX10_begin 27 = .ok (.iload_n 1, 1) := by decide +kernel
theorem dX10_begin_28 : decode cX10_begin 28 = .ok (.invokevirtual 101, 3) := by decide +kernel
theorem dX10_begin_31 : decode cX10_begin 31 = .ok (.aload_n 0, 1) := by decide +kernel
theorem dX10_begin_32 : decode cX10_begin 32 = .ok (.iconst 0, 1) := by decide +kernel
theorem dX10_begin_33 : decode cX10_begin 33 = .ok (.putfield 105, 3) := by decide +kernel
theorem dX10_begin_36 : decode cX10_begin 36 = .ok (.aload_n 0, 1) := by decide +kernel
theorem dX10_begin_37 : decode cX10_begin 37 = .ok (.getfield 75, 3) := by decide +kernel
theorem dX10_begin_40 : decode cX10_begin 40 = .ok (.getfield 115, 3) := by decide +kernel
theorem dX10_begin_43 : decode cX10_begin 43 = .ok (.ireturn, 1) := by decide +kernel
theorem dX10_take_0 : decode cX10_take 0 = .ok (.aload_n 0, 1) := by decide +kernel
theorem dX10_take_1 : decode cX10_take 1 = .ok (.iload_n 1, 1) := by decide +kernel
theorem dX10_take_2 : decode cX10_take 2 = .ok (.invokevirtual 118, 3) := by decide +kernel
theorem dX10_take_5 : decode cX10_take 5 = .ok (.ifCond .ne 6, 3) := by decide +kernel
theorem dX10_take_8 : decode cX10_take 8 = .ok (.ldc 114, 2) := by decide +kernel
theorem dX10_take_10 : decode cX10_take 10 = .ok (.ireturn, 1) := by decide +kernel
theorem dX10_take_11 : decode cX10_take 11 = .ok (.aload_n 0, 1) := by decide +kernel
theorem dX10_take_12 : decode cX10_take 12 = .ok (.iload_n 1, 1) := by decide +kernel
theorem dX10_take_13 : decode cX10_take 13 = .ok (.invokevirtual 121, 3) := by decide +kernel
theorem dX10_take_16 : decode cX10_take 16 = .ok (.ifCond .ne 6, 3) := by decide +kernel
theorem dX10_take_19 : decode cX10_take 19 = .ok (.ldc 124, 2) := by decide +kernel
theorem dX10_take_21 : decode cX10_take 21 = .ok (.ireturn, 1) := by decide +kernel
theorem dX10_take_22 : decode cX10_take 22 = .ok (.aload_n 0, 1) := by decide +kernel
theorem dX10_take_23 : decode cX10_take 23 = .ok (.getfield 19, 3) := by decide +kernel
theorem dX10_take_26 : decode cX10_take 26 = .ok (.iload_n 1, 1) := by decide +kernel
theorem dX10_take_27 : decode cX10_take 27 = .ok (.invokevirtual 125, 3) := by decide +kernel
theorem dX10_take_30 : decode cX10_take 30 = .ok (.ifCond .eq 17, 3) := by decide +kernel
theorem dX10_take_33 : decode cX10_take 33 = .ok (.aload_n 0, 1) := by decide +kernel
theorem dX10_take_34 : decode cX10_take 34 = .ok (.getfield 19, 3) := by decide +kernel
theorem dX10_take_37 : decode cX10_take 37 = .ok (.aload_n 0, 1) := by decide +kernel
theorem dX10_take_38 : decode cX10_take 38 = .ok (.getfield 75, 3) := by decide +kernel
theorem dX10_take_41 : decode cX10_take 41 = .ok (.invokevirtual 128, 3) := by decide +kernel
theorem dX10_take_44 : decode cX10_take 44 = .ok (.goto 5, 3) := by decide +kernel
theorem dX10_take_47 : decode cX10_take 47 = .ok (.ldc 91, 2) := by decide +kernel
theorem dX10_take_49 : decode cX10_take 49 = .ok (.ireturn, 1) := by decide +kernel
theorem dX10_back_0 : decode cX10_back 0 = .ok (.aload_n 0, 1) := by decide +kernel
theorem dX10_back_1 : decode cX10_back 1 = .ok (.getfield 96, 3) := by decide +kernel
theorem dX10_back_4 : decode cX10_back 4 = .ok (.ifCond .ne 6, 3) := by decide +kernel
theorem dX10_back_7 : decode cX10_back 7 = .ok (.ldc 114, 2) := by decide +kernel
theorem dX10_back_9 : decode cX10_back 9 = .ok (.ireturn, 1) := by decide +kernel
theorem dX10_back_10 : decode cX10_back 10 = .ok (.iload_n 1, 1) := by decide +kernel
theorem dX10_back_11 : decode cX10_back 11 = .ok (.iconst 1, 1) := by decide +kernel
theorem dX10_back_12 : decode cX10_back 12 = .ok (.if_icmp .lt 9, 3) := by decide +kernel
theorem dX10_back_15 : decode cX10_back 15 = .ok (.iload_n 1, 1) := by decide +kernel
theorem dX10_back_16 : decode cX10_back 16 = .ok (.bipush 60, 2) := by decide +kernel
theorem dX10_back_18 : decode cX10_back 18 = .ok (.if_icmp .le 6, 3) := by decide +kernel
theorem dX10_back_21 : decode cX10_back 21 = .ok (.ldc 82, 2) := by decide +kernel
theorem dX10_back_23 : decode cX10_back 23 = .ok (.ireturn, 1) := by decide +kernel
theorem dX10_back_24 : decode cX10_back 24 = .ok (.iload_n 1, 1) := by decide +kernel
theorem dX10_back_25 : decode cX10_back 25 = .ok (.aload_n 0, 1) := by decide +kernel
theorem dX10_back_26 : decode cX10_back 26 = .ok (.getfield 19, 3) := by decide +kernel
theorem dX10_back_29 : decode cX10_back 29 = .ok (.getfield 131, 3) := by decide +kernel
theorem dX10_back_32 : decode cX10_back 32 = .ok (.if_icmp .le 6, 3) := by decide +kernel
theorem dX10_back_35 : decode cX10_back 35 = .ok (.ldc 124, 2) := by decide +kernel
theorem dX10_back_37 : decode cX10_back 37 = .ok (.ireturn, 1) := by decide +kernel
theorem dX10_back_38 : decode cX10_back 38 = .ok (.aload_n 0, 1) := by decide +kernel
theorem dX10_back_39 : decode cX10_back 39 = .ok (.getfield 19, 3) := by decide +kernel
theorem dX10_back_42 : decode cX10_back 42 = .ok (.dup, 1) := by decide +kernel
theorem dX10_back_43 : decode cX10_back 43 = .ok (.getfield 131, 3) := by decide +kernel
theorem dX10_back_46 : decode cX10_back 46 = .ok (.iload_n 1, 1) := by decide +kernel
theorem dX10_back_47 : decode cX10_back 47 = .ok (.isub, 1) := by decide +kernel
theorem dX10_back_48 : decode cX10_back 48 = .ok (.putfield 131, 3) := by decide +kernel
theorem dX10_back_51 : decode cX10_back 51 = .ok (.aload_n 0, 1) := by decide +kernel
theorem dX10_back_52 : decode cX10_back 52 = .ok (.getfield 19, 3) := by decide +kernel
theorem dX10_back_55 : decode cX10_back 55 = .ok (.aload_n 0, 1) := by decide +kernel
theorem dX10_back_56 : decode cX10_back 56 = .ok (.getfield 75, 3) := by decide +kernel
theorem dX10_back_59 : decode cX10_back 59 = .ok (.invokevirtual 128, 3) := by decide +kernel
theorem dX10_back_62 : decode cX10_back 62 = .ok (.ireturn, 1) := by decide +kernel
theorem dX10_cut_0 : decode cX10_cut 0 = .ok (.aload_n 0, 1) := by decide +kernel
theorem dX10_cut_1 : decode cX10_cut 1 = .ok (.iload_n 1, 1) := by decide +kernel
theorem dX10_cut_2 : decode cX10_cut 2 = .ok (.invokevirtual 118, 3) := by decide +kernel
theorem dX10_cut_5 : decode cX10_cut 5 = .ok (.ifCond .ne 6, 3) := by decide +kernel
theorem dX10_cut_8 : decode cX10_cut 8 = .ok (.ldc 114, 2) := by decide +kernel
theorem dX10_cut_10 : decode cX10_cut 10 = .ok (.ireturn, 1) := by decide +kernel
theorem dX10_cut_11 : decode cX10_cut 11 = .ok (.iload_n 2, 1) := by decide +kernel
theorem dX10_cut_12 : decode cX10_cut 12 = .ok (.ifCond .eq 11, 3) := by decide +kernel
theorem dX10_cut_15 : decode cX10_cut 15 = .ok (.iload_n 2, 1) := by decide +kernel
theorem dX10_cut_16 : decode cX10_cut 16 = .ok (.iconst 1, 1) := by decide +kernel
theorem dX10_cut_17 : decode cX10_cut 17 = .ok (.if_icmp .eq 6, 3) := by decide +kernel
theorem dX10_cut_20 : decode cX10_cut 20 = .ok (.ldc 82, 2) := by decide +kernel
theorem dX10_cut_22 : decode cX10_cut 22 = .ok (.ireturn, 1) := by decide +kernel
theorem dX10_cut_23 : decode cX10_cut 23 = .ok (.aload_n 0, 1) := by decide +kernel
theorem dX10_cut_24 : decode cX10_cut 24 = .ok (.getfield 75, 3) := by decide +kernel
theorem dX10_cut_27 : decode cX10_cut 27 = .ok (.getfield 132, 3) := by decide +kernel
theorem dX10_cut_30 : decode cX10_cut 30 = .ok (.iload_n 1, 1) := by decide +kernel
theorem dX10_cut_31 : decode cX10_cut 31 = .ok (.invokestatic 135, 3) := by decide +kernel
theorem dX10_cut_34 : decode cX10_cut 34 = .ok (.iload_n 2, 1) := by decide +kernel
theorem dX10_cut_35 : decode cX10_cut 35 = .ok (.if_icmp .ne 6, 3) := by decide +kernel
theorem dX10_cut_38 : decode cX10_cut 38 = .ok (.ldc 124, 2) := by decide +kernel
theorem dX10_cut_40 : decode cX10_cut 40 = .ok (.ireturn, 1) := by decide +kernel
theorem dX10_cut_41 : decode cX10_cut 41 = .ok (.aload_n 0, 1) := by decide +kernel
theorem dX10_cut_42 : decode cX10_cut 42 = .ok (.getfield 26, 3) := by decide +kernel
theorem dX10_cut_45 : decode cX10_cut 45 = .ok (.iload_n 1, 1) := by decide +kernel
theorem dX10_cut_46 : decode cX10_cut 46 = .ok (.iconst 0, 1) := by decide +kernel
theorem dX10_cut_47 : decode cX10_cut 47 = .ok (.iconst 1, 1) := by decide +kernel
theorem dX10_cut_48 : decode cX10_cut 48 = .ok (.iload_n 2, 1) := by decide +kernel
theorem dX10_cut_49 : decode cX10_cut 49 = .ok (.isub, 1) := by decide +kernel
theorem dX10_cut_50 : decode cX10_cut 50 = .ok (.invokevirtual 139, 3) := by decide +kernel
theorem dX10_cut_53 : decode cX10_cut 53 = .ok (.aload_n 0, 1) := by decide +kernel
theorem dX10_cut_54 : decode cX10_cut 54 = .ok (.getfield 75, 3) := by decide +kernel
theorem dX10_cut_57 : decode cX10_cut 57 = .ok (.iload_n 1, 1) := by decide +kernel
theorem dX10_cut_58 : decode cX10_cut 58 = .ok (.iload_n 2, 1) := by decide +kernel
theorem dX10_cut_59 : decode cX10_cut 59 = .ok (.invokevirtual 143, 3) := by decide +kernel
theorem dX10_cut_62 : decode cX10_cut 62 = .ok (.aload_n 0, 1) := by decide +kernel
theorem dX10_cut_63 : decode cX10_cut 63 = .ok (.iconst 0, 1) := by decide +kernel
theorem dX10_cut_64 : decode cX10_cut 64 = .ok (.putfield 105, 3) := by decide +kernel
theorem dX10_cut_67 : decode cX10_cut 67 = .ok (.aload_n 0, 1) := by decide +kernel
theorem dX10_cut_68 : decode cX10_cut 68 = .ok (.getfield 75, 3) := by decide +kernel
theorem dX10_cut_71 : decode cX10_cut 71 = .ok (.getfield 108, 3) := by decide +kernel
theorem dX10_cut_74 : decode cX10_cut 74 = .ok (.aload_n 0, 1) := by decide +kernel
theorem dX10_cut_75 : decode cX10_cut 75 = .ok (.getfield 75, 3) := by decide +kernel
theorem dX10_cut_78 : decode cX10_cut 78 = .ok (.getfield 132, 3) := by decide +kernel
theorem dX10_cut_81 : decode cX10_cut 81 = .ok (.invokestatic 147, 3) := by decide +kernel
theorem dX10_cut_84 : decode cX10_cut 84 = .ok (.isub, 1) := by decide +kernel
theorem dX10_cut_85 : decode cX10_cut 85 = .ok (.ireturn, 1) := by decide +kernel
theorem dX10_cost_0 : decode cX10_cost 0 = .ok (.aload_n 0, 1) := by decide +kernel
theorem dX10_cost_1 : decode cX10_cost 1 = .ok (.iload_n 1, 1) := by decide +kernel
theorem dX10_cost_2 : decode cX10_cost 2 = .ok (.invokevirtual 118, 3) := by decide +kernel
theorem dX10_cost_5 : decode cX10_cost 5 = .ok (.ifCond .ne 6, 3) := by decide +kernel
theorem dX10_cost_8 : decode cX10_cost 8 = .ok (.ldc 114, 2) := by decide +kernel
theorem dX10_cost_10 : decode cX10_cost 10 = .ok (.ireturn, 1) := by decide +kernel
theorem dX10_cost_11 : decode cX10_cost 11 = .ok (.iload_n 2, 1) := by decide +kernel
theorem dX10_cost_12 : decode cX10_cost 12 = .ok (.ifCond .lt 9, 3) := by decide +kernel
theorem dX10_cost_15 : decode cX10_cost 15 = .ok (.iload_n 2, 1) := by decide +kernel
theorem dX10_cost_16 : decode cX10_cost 16 = .ok (.bipush 9, 2) := by decide +kernel
theorem dX10_cost_18 : decode cX10_cost 18 = .ok (.if_icmp .le 6, 3) := by decide +kernel
theorem dX10_cost_21 : decode cX10_cost 21 = .ok (.ldc 82, 2) := by decide +kernel
theorem dX10_cost_23 : decode cX10_cost 23 = .ok (.ireturn, 1) := by decide +kernel
theorem dX10_cost_24 : decode cX10_cost 24 = .ok (.aload_n 0, 1) := by decide +kernel
theorem dX10_cost_25 : decode cX10_cost 25 = .ok (.getfield 75, 3) := by decide +kernel
theorem dX10_cost_28 : decode cX10_cost 28 = .ok (.getfield 153, 3) := by decide +kernel
theorem dX10_cost_31 : decode cX10_cost 31 = .ok (.iload_n 1, 1) := by decide +kernel
theorem dX10_cost_32 : decode cX10_cost 32 = .ok (.iaload, 1) := by decide +kernel
theorem dX10_cost_33 : decode cX10_cost 33 = .ok (.istore_n 3, 1) := by decide +kernel
theorem dX10_cost_34 : decode cX10_cost 34 = .ok (.aload_n 0, 1) := by decide +kernel
theorem dX10_cost_35 : decode cX10_cost 35 = .ok (.getfield 26, 3) := by decide +kernel
theorem dX10_cost_38 : decode cX10_cost 38 = .ok (.iload_n 1, 1) := by decide +kernel
theorem dX10_cost_39 : decode cX10_cost 39 = .ok (.iconst 1, 1) := by decide +kernel
theorem dX10_cost_40 : decode cX10_cost 40 = .ok (.iload_n 3, 1) := by decide +kernel
theorem dX10_cost_41 : decode cX10_cost 41 = .ok (.invokevirtual 139, 3) := by decide +kernel
theorem dX10_cost_44 : decode cX10_cost 44 = .ok (.aload_n 0, 1) := by decide +kernel
theorem dX10_cost_45 : decode cX10_cost 45 = .ok (.getfield 75, 3) := by decide +kernel
theorem dX10_cost_48 : decode cX10_cost 48 = .ok (.getfield 153, 3) := by decide +kernel
theorem dX10_cost_51 : decode cX10_cost 51 = .ok (.iload_n 1, 1) := by decide +kernel
theorem dX10_cost_52 : decode cX10_cost 52 = .ok (.iload_n 2, 1) := by decide +kernel
theorem dX10_cost_53 : decode cX10_cost 53 = .ok (.iastore, 1) := by decide +kernel
theorem dX10_cost_54 : decode cX10_cost 54 = .ok (.aload_n 0, 1) := by decide +kernel
theorem dX10_cost_55 : decode cX10_cost 55 = .ok (.iconst 0, 1) := by decide +kernel
theorem dX10_cost_56 : decode cX10_cost 56 = .ok (.putfield 157, 3) := by decide +kernel
theorem dX10_cost_59 : decode cX10_cost 59 = .ok (.iload_n 3, 1) := by decide +kernel
theorem dX10_cost_60 : decode cX10_cost 60 = .ok (.ireturn, 1) := by decide +kernel
theorem dX10_undo_0 : decode cX10_undo 0 = .ok (.aload_n 0, 1) := by decide +kernel
theorem dX10_undo_1 : decode cX10_undo 1 = .ok (.getfield 96, 3) := by decide +kernel
theorem dX10_undo_4 : decode cX10_undo 4 = .ok (.ifCond .ne 6, 3) := by decide +kernel
theorem dX10_undo_7 : decode cX10_undo 7 = .ok (.ldc 114, 2) := by decide +kernel
theorem dX10_undo_9 : decode cX10_undo 9 = .ok (.ireturn, 1) := by decide +kernel
theorem dX10_undo_10 : decode cX10_undo 10 = .ok (.aload_n 0, 1) := by decide +kernel
theorem dX10_undo_11 : decode cX10_undo 11 = .ok (.getfield 26, 3) := by decide +kernel
theorem dX10_undo_14 : decode cX10_undo 14 = .ok (.getfield 100, 3) := by decide +kernel
theorem dX10_undo_17 : decode cX10_undo 17 = .ok (.ifCond .ne 6, 3) := by decide +kernel
theorem dX10_undo_20 : decode cX10_undo 20 = .ok (.ldc 124, 2) := by decide +kernel
theorem dX10_undo_22 : decode cX10_undo 22 = .ok (.ireturn, 1) := by decide +kernel
theorem dX10_undo_23 : decode cX10_undo 23 = .ok (.aload_n 0, 1) := by decide +kernel
theorem dX10_undo_24 : decode cX10_undo 24 = .ok (.getfield 26, 3) := by decide +kernel
theorem dX10_undo_27 : decode cX10_undo 27 = .ok (.dup, 1) := by decide +kernel
theorem dX10_undo_28 : decode cX10_undo 28 = .ok (.getfield 100, 3) := by decide +kernel
theorem dX10_undo_31 : decode cX10_undo 31 = .ok (.iconst 1, 1) := by decide +kernel
theorem dX10_undo_32 : decode cX10_undo 32 = .ok (.isub, 1) := by decide +kernel
theorem dX10_undo_33 : decode cX10_undo 33 = .ok (.putfield 100, 3) := by decide +kernel
theorem dX10_undo_36 : decode cX10_undo 36 = .ok (.aload_n 0, 1) := by decide +kernel
theorem dX10_undo_37 : decode cX10_undo 37 = .ok (.getfield 26, 3) := by decide +kernel
theorem dX10_undo_40 : decode cX10_undo 40 = .ok (.getfield 160, 3) := by decide +kernel
theorem dX10_undo_43 : decode cX10_undo 43 = .ok (.aload_n 0, 1) := by decide +kernel
theorem dX10_undo_44 : decode cX10_undo 44 = .ok (.getfield 26, 3) := by decide +kernel
theorem dX10_undo_47 : decode cX10_undo 47 = .ok (.getfield 100, 3) := by decide +kernel
theorem dX10_undo_50 : decode cX10_undo 50 = .ok (.iaload, 1) := by decide +kernel
theorem dX10_undo_51 : decode cX10_undo 51 = .ok (.istore_n 1, 1) := by decide +kernel
theorem dX10_undo_52 : decode cX10_undo 52 = .ok (.aload_n 0, 1) := by decide +kernel
theorem dX10_undo_53 : decode cX10_undo 53 = .ok (.getfield 26, 3) := by decide +kernel
theorem dX10_undo_56 : decode cX10_undo 56 = .ok (.getfield 163, 3) := by decide +kernel
theorem dX10_undo_59 : decode cX10_undo 59 = .ok (.aload_n 0, 1) := by decide +kernel
theorem dX10_undo_60 : decode cX10_undo 60 = .ok (.getfield 26, 3) := by decide +kernel
theorem dX10_undo_63 : decode cX10_undo 63 = .ok (.getfield 100, 3) := by decide +kernel
theorem dX10_undo_66 : decode cX10_undo 66 = .ok (.iaload, 1) := by decide +kernel
theorem dX10_undo_67 : decode cX10_undo 67 = .ok (.istore_n 2, 1) := by decide +kernel
theorem dX10_undo_68 : decode cX10_undo 68 = .ok (.aload_n 0, 1) := by decide +kernel
theorem dX10_undo_69 : decode cX10_undo 69 = .ok (.getfield 26, 3) := by decide +kernel
theorem dX10_undo_72 : decode cX10_undo 72 = .ok (.getfield 166, 3) := by decide +kernel
theorem dX10_undo_75 : decode cX10_undo 75 = .ok (.aload_n 0, 1) := by decide +kernel
theorem dX10_undo_76 : decode cX10_undo 76 = .ok (.getfield 26, 3) := by decide +kernel
theorem dX10_undo_79 : decode cX10_undo 79 = .ok (.getfield 100, 3) := by decide +kernel
theorem dX10_undo_82 : decode cX10_undo 82 = .ok (.iaload, 1) := by decide +kernel
theorem dX10_undo_83 : decode cX10_undo 83 = .ok (.ifCond .ne 20, 3) := by decide +kernel
theorem dX10_undo_86 : decode cX10_undo 86 = .ok (.aload_n 0, 1) := by decide +kernel
theorem dX10_undo_87 : decode cX10_undo 87 = .ok (.getfield 75, 3) := by decide +kernel
theorem dX10_undo_90 : decode cX10_undo 90 = .ok (.iload_n 1, 1) := by decide +kernel
theorem dX10_undo_91 : decode cX10_undo 91 = .ok (.iload_n 2, 1) := by decide +kernel
theorem dX10_undo_92 : decode cX10_undo 92 = .ok (.invokevirtual 143, 3) := by decide +kernel
theorem dX10_undo_95 : decode cX10_undo 95 = .ok (.aload_n 0, 1) := by decide +kernel
theorem dX10_undo_96 : decode cX10_undo 96 = .ok (.iconst 0, 1) := by decide +kernel
theorem dX10_undo_97 : decode cX10_undo 97 = .ok (.putfield 105, 3) := by decide +kernel
theorem dX10_undo_100 : decode cX10_undo 100 = .ok (.goto 18, 3) := by decide +kernel
theorem dX10_undo_103 : decode cX10_undo 103 = .ok (.aload_n 0, 1) := by decide +kernel
theorem dX10_undo_104 : decode cX10_undo 104 = .ok (.getfield 75, 3) := by decide +kernel
theorem dX10_undo_107 : decode cX10_undo 107 = .ok (.getfield 153, 3) := by decide +kernel
theorem dX10_undo_110 : decode cX10_undo 110 = .ok (.iload_n 1, 1) := by decide +kernel
theorem dX10_undo_111 : decode cX10_undo 111 = .ok (.iload_n 2, 1) := by decide +kernel
theorem dX10_undo_112 : decode cX10_undo 112 = .ok (.iastore, 1) := by decide +kernel
theorem dX10_undo_113 : decode cX10_undo 113 = .ok (.aload_n 0, 1) := by decide +kernel
theorem dX10_undo_114 : decode cX10_undo 114 = .ok (.iconst 0, 1) := by decide +kernel
theorem dX10_undo_115 : decode cX10_undo 115 = .ok (.putfield 157, 3) := by decide +kernel
theorem dX10_undo_118 : decode cX10_undo 118 = .ok (.aload_n 0, 1) := by decide +kernel
theorem dX10_undo_119 : decode cX10_undo 119 = .ok (.getfield 26, 3) := by decide +kernel
theorem dX10_undo_122 : decode cX10_undo 122 = .ok (.getfield 100, 3) := by decide +kernel
theorem dX10_undo_125 : decode cX10_undo 125 = .ok (.ireturn, 1) := by decide +kernel
theorem dX10_answer_0 : decode cX10_answer 0 = .ok (.aload_n 0, 1) := by decide +kernel
theorem dX10_answer_1 : decode cX10_answer 1 = .ok (.iload_n 1, 1) := by decide +kernel
theorem dX10_answer_2 : decode cX10_answer 2 = .ok (.invokevirtual 118, 3) := by decide +kernel
theorem dX10_answer_5 : decode cX10_answer 5 = .ok (.ifCond .ne 6, 3) := by decide +kernel
theorem dX10_answer_8 : decode cX10_answer 8 = .ok (.ldc 114, 2) := by decide +kernel
theorem dX10_answer_10 : decode cX10_answer 10 = .ok (.ireturn, 1) := by decide +kernel
theorem dX10_answer_11 : decode cX10_answer 11 = .ok (.iload_n 2, 1) := by decide +kernel
theorem dX10_answer_12 : decode cX10_answer 12 = .ok (.tableswitch 155 0 8 #[52, 62, 72, 82, 92, 102, 112, 124, 138], 52) := by decide +kernel
theorem dX10_answer_64 : decode cX10_answer 64 = .ok (.aload_n 0, 1) := by decide +kernel
theorem dX10_answer_65 : decode cX10_answer 65 = .ok (.getfield 75, 3) := by decide +kernel
theorem dX10_answer_68 : decode cX10_answer 68 = .ok (.getfield 169, 3) := by decide +kernel
theorem dX10_answer_71 : decode cX10_answer 71 = .ok (.iload_n 1, 1) := by decide +kernel
theorem dX10_answer_72 : decode cX10_answer 72 = .ok (.iaload, 1) := by decide +kernel
theorem dX10_answer_73 : decode cX10_answer 73 = .ok (.ireturn, 1) := by decide +kernel
theorem dX10_answer_74 : decode cX10_answer 74 = .ok (.aload_n 0, 1) := by decide +kernel
theorem dX10_answer_75 : decode cX10_answer 75 = .ok (.getfield 75, 3) := by decide +kernel
theorem dX10_answer_78 : decode cX10_answer 78 = .ok (.getfield 172, 3) := by decide +kernel
theorem dX10_answer_81 : decode cX10_answer 81 = .ok (.iload_n 1, 1) := by decide +kernel
theorem dX10_answer_82 : decode cX10_answer 82 = .ok (.iaload, 1) := by decide +kernel
theorem dX10_answer_83 : decode cX10_answer 83 = .ok (.ireturn, 1) := by decide +kernel
theorem dX10_answer_84 : decode cX10_answer 84 = .ok (.aload_n 0, 1) := by decide +kernel
theorem dX10_answer_85 : decode cX10_answer 85 = .ok (.getfield 75, 3) := by decide +kernel
theorem dX10_answer_88 : decode cX10_answer 88 = .ok (.getfield 153, 3) := by decide +kernel
theorem dX10_answer_91 : decode cX10_answer 91 = .ok (.iload_n 1, 1) := by decide +kernel
theorem dX10_answer_92 : decode cX10_answer 92 = .ok (.iaload, 1) := by decide +kernel
theorem dX10_answer_93 : decode cX10_answer 93 = .ok (.ireturn, 1) := by decide +kernel
theorem dX10_answer_94 : decode cX10_answer 94 = .ok (.aload_n 0, 1) := by decide +kernel
theorem dX10_answer_95 : decode cX10_answer 95 = .ok (.getfield 75, 3) := by decide +kernel
theorem dX10_answer_98 : decode cX10_answer 98 = .ok (.getfield 175, 3) := by decide +kernel
theorem dX10_answer_101 : decode cX10_answer 101 = .ok (.iload_n 1, 1) := by decide +kernel
theorem dX10_answer_102 : decode cX10_answer 102 = .ok (.iaload, 1) := by decide +kernel
theorem dX10_answer_103 : decode cX10_answer 103 = .ok (.ireturn, 1) := by decide +kernel
theorem dX10_answer_104 : decode cX10_answer 104 = .ok (.aload_n 0, 1) := by decide +kernel
theorem dX10_answer_105 : decode cX10_answer 105 = .ok (.getfield 75, 3) := by decide +kernel
theorem dX10_answer_108 : decode cX10_answer 108 = .ok (.getfield 178, 3) := by decide +kernel
theorem dX10_answer_111 : decode cX10_answer 111 = .ok (.iload_n 1, 1) := by decide +kernel
theorem dX10_answer_112 : decode cX10_answer 112 = .ok (.iaload, 1) := by decide +kernel
theorem dX10_answer_113 : decode cX10_answer 113 = .ok (.ireturn, 1) := by decide +kernel
theorem dX10_answer_114 : decode cX10_answer 114 = .ok (.aload_n 0, 1) := by decide +kernel
theorem dX10_answer_115 : decode cX10_answer 115 = .ok (.getfield 75, 3) := by decide +kernel
theorem dX10_answer_118 : decode cX10_answer 118 = .ok (.getfield 181, 3) := by decide +kernel
theorem dX10_answer_121 : decode cX10_answer 121 = .ok (.iload_n 1, 1) := by decide +kernel
theorem dX10_answer_122 : decode cX10_answer 122 = .ok (.iaload, 1) := by decide +kernel
theorem dX10_answer_123 : decode cX10_answer 123 = .ok (.ireturn, 1) := by decide +kernel
theorem dX10_answer_124 : decode cX10_answer 124 = .ok (.aload_n 0, 1) := by decide +kernel
theorem dX10_answer_125 : decode cX10_answer 125 = .ok (.getfield 75, 3) := by decide +kernel
theorem dX10_answer_128 : decode cX10_answer 128 = .ok (.getfield 132, 3) := by decide +kernel
theorem dX10_answer_131 : decode cX10_answer 131 = .ok (.iload_n 1, 1) := by decide +kernel
theorem dX10_answer_132 : decode cX10_answer 132 = .ok (.invokestatic 135, 3) := by decide +kernel
theorem dX10_answer_135 : decode cX10_answer 135 = .ok (.ireturn, 1) := by decide +kernel
theorem dX10_answer_136 : decode cX10_answer 136 = .ok (.aload_n 0, 1) := by decide +kernel
theorem dX10_answer_137 : decode cX10_answer 137 = .ok (.iload_n 1, 1) := by decide +kernel
theorem dX10_answer_138 : decode cX10_answer 138 = .ok (.invokevirtual 121, 3) := by decide +kernel
theorem dX10_answer_141 : decode cX10_answer 141 = .ok (.ifCond .eq 7, 3) := by decide +kernel
theorem dX10_answer_144 : decode cX10_answer 144 = .ok (.iconst 1, 1) := by decide +kernel
theorem dX10_answer_145 : decode cX10_answer 145 = .ok (.goto 4, 3) := by decide +kernel
theorem dX10_answer_148 : decode cX10_answer 148 = .ok (.iconst 0, 1) := by decide +kernel
theorem dX10_answer_149 : decode cX10_answer 149 = .ok (.ireturn, 1) := by decide +kernel
theorem dX10_answer_150 : decode cX10_answer 150 = .ok (.aload_n 0, 1) := by decide +kernel
theorem dX10_answer_151 : decode cX10_answer 151 = .ok (.getfield 75, 3) := by decide +kernel
theorem dX10_answer_154 : decode cX10_answer 154 = .ok (.iload_n 1, 1) := by decide +kernel
theorem dX10_answer_155 : decode cX10_answer 155 = .ok (.invokevirtual 184, 3) := by decide +kernel
theorem dX10_answer_158 : decode cX10_answer 158 = .ok (.ifCond .eq 7, 3) := by decide +kernel
theorem dX10_answer_161 : decode cX10_answer 161 = .ok (.iconst 1, 1) := by decide +kernel
theorem dX10_answer_162 : decode cX10_answer 162 = .ok (.goto 4, 3) := by decide +kernel
theorem dX10_answer_165 : decode cX10_answer 165 = .ok (.iconst 0, 1) := by decide +kernel
theorem dX10_answer_166 : decode cX10_answer 166 = .ok (.ireturn, 1) := by decide +kernel
theorem dX10_answer_167 : decode cX10_answer 167 = .ok (.aload_n 0, 1) := by decide +kernel
theorem dX10_answer_168 : decode cX10_answer 168 = .ok (.iload_n 1, 1) := by decide +kernel
theorem dX10_answer_169 : decode cX10_answer 169 = .ok (.iload_n 2, 1) := by decide +kernel
theorem dX10_answer_170 : decode cX10_answer 170 = .ok (.invokevirtual 187, 3) := by decide +kernel
theorem dX10_answer_173 : decode cX10_answer 173 = .ok (.ireturn, 1) := by decide +kernel
theorem dX10_count_0 : decode cX10_count 0 = .ok (.iload_n 1, 1) := by decide +kernel
theorem dX10_count_1 : decode cX10_count 1 = .ok (.bipush 10, 2) := by decide +kernel
theorem dX10_count_3 : decode cX10_count 3 = .ok (.if_icmp .ne 11, 3) := by decide +kernel
theorem dX10_count_6 : decode cX10_count 6 = .ok (.aload_n 0, 1) := by decide +kernel
theorem dX10_count_7 : decode cX10_count 7 = .ok (.getfield 10, 3) := by decide +kernel
theorem dX10_count_10 : decode cX10_count 10 = .ok (.getfield 87, 3) := by decide +kernel
theorem dX10_count_13 : decode cX10_count 13 = .ok (.ireturn, 1) := by decide +kernel
theorem dX10_count_14 : decode cX10_count 14 = .ok (.aload_n 0, 1) := by decide +kernel
theorem dX10_count_15 : decode cX10_count 15 = .ok (.getfield 96, 3) := by decide +kernel
theorem dX10_count_18 : decode cX10_count 18 = .ok (.ifCond .ne 6, 3) := by decide +kernel
theorem dX10_count_21 : decode cX10_count 21 = .ok (.ldc 114, 2) := by decide +kernel
theorem dX10_count_23 : decode cX10_count 23 = .ok (.ireturn, 1) := by decide +kernel
theorem dX10_count_24 : decode cX10_count 24 = .ok (.iload_n 1, 1) := by decide +kernel
theorem dX10_count_25 : decode cX10_count 25 = .ok (.tableswitch 144 0 9 #[55, 67, 79, 87, 92, 104, 112, 120, 128, 136], 55) := by decide +kernel
theorem dX10_count_80 : decode cX10_count 80 = .ok (.aload_n 0, 1) := by decide +kernel
theorem dX10_count_81 : decode cX10_count 81 = .ok (.getfield 19, 3) := by decide +kernel
theorem dX10_count_84 : decode cX10_count 84 = .ok (.aload_n 0, 1) := by decide +kernel
theorem dX10_count_85 : decode cX10_count 85 = .ok (.getfield 75, 3) := by decide +kernel
theorem dX10_count_88 : decode cX10_count 88 = .ok (.invokevirtual 128, 3) := by decide +kernel
theorem dX10_count_91 : decode cX10_count 91 = .ok (.ireturn, 1) := by decide +kernel
theorem dX10_count_92 : decode cX10_count 92 = .ok (.aload_n 0, 1) := by decide +kernel
theorem dX10_count_93 : decode cX10_count 93 = .ok (.getfield 19, 3) := by decide +kernel
theorem dX10_count_96 : decode cX10_count 96 = .ok (.aload_n 0, 1) := by decide +kernel
theorem dX10_count_97 : decode cX10_count 97 = .ok (.getfield 75, 3) := by decide +kernel
theorem dX10_count_100 : decode cX10_count 100 = .ok (.invokevirtual 190, 3) := by decide +kernel
theorem dX10_count_103 : decode cX10_count 103 = .ok (.ireturn, 1) := by decide +kernel
theorem dX10_count_104 : decode cX10_count 104 = .ok (.aload_n 0, 1) := by decide +kernel
theorem dX10_count_105 : decode cX10_count 105 = .ok (.getfield 19, 3) := by decide +kernel
theorem dX10_count_108 : decode cX10_count 108 = .ok (.getfield 131, 3) := by decide +kernel
theorem dX10_count_111 : decode cX10_count 111 = .ok (.ireturn, 1) := by decide +kernel
theorem dX10_count_112 : decode cX10_count 112 = .ok (.aload_n 0, 1) := by decide +kernel
theorem dX10_count_113 : decode cX10_count 113 = .ok (.invokevirtual 193, 3) := by decide +kernel
theorem dX10_count_116 : decode cX10_count 116 = .ok (.ireturn, 1) := by decide +kernel
theorem dX10_count_117 : decode cX10_count 117 = .ok (.aload_n 0, 1) := by decide +kernel
theorem dX10_count_118 : decode cX10_count 118 = .ok (.getfield 19, 3) := by decide +kernel
theorem dX10_count_121 : decode cX10_count 121 = .ok (.aload_n 0, 1) := by decide +kernel
theorem dX10_count_122 : decode cX10_count 122 = .ok (.getfield 75, 3) := by decide +kernel
theorem dX10_count_125 : decode cX10_count 125 = .ok (.invokevirtual 197, 3) := by decide +kernel
theorem dX10_count_128 : decode cX10_count 128 = .ok (.ireturn, 1) := by decide +kernel
theorem dX10_count_129 : decode cX10_count 129 = .ok (.aload_n 0, 1) := by decide +kernel
theorem dX10_count_130 : decode cX10_count 130 = .ok (.getfield 75, 3) := by decide +kernel
theorem dX10_count_133 : decode cX10_count 133 = .ok (.getfield 115, 3) := by decide +kernel
theorem dX10_count_136 : decode cX10_count 136 = .ok (.ireturn, 1) := by decide +kernel
theorem dX10_count_137 : decode cX10_count 137 = .ok (.aload_n 0, 1) := by decide +kernel
theorem dX10_count_138 : decode cX10_count 138 = .ok (.getfield 75, 3) := by decide +kernel
theorem dX10_count_141 : decode cX10_count 141 = .ok (.getfield 200, 3) := by decide +kernel
theorem dX10_count_144 : decode cX10_count 144 = .ok (.ireturn, 1) := by decide +kernel
theorem dX10_count_145 : decode cX10_count 145 = .ok (.aload_n 0, 1) := by decide +kernel
theorem dX10_count_146 : decode cX10_count 146 = .ok (.getfield 75, 3) := by decide +kernel
theorem dX10_count_149 : decode cX10_count 149 = .ok (.getfield 203, 3) := by decide +kernel
theorem dX10_count_152 : decode cX10_count 152 = .ok (.ireturn, 1) := by decide +kernel
theorem dX10_count_153 : decode cX10_count 153 = .ok (.aload_n 0, 1) := by decide +kernel
theorem dX10_count_154 : decode cX10_count 154 = .ok (.getfield 75, 3) := by decide +kernel
theorem dX10_count_157 : decode cX10_count 157 = .ok (.getfield 108, 3) := by decide +kernel
theorem dX10_count_160 : decode cX10_count 160 = .ok (.ireturn, 1) := by decide +kernel
theorem dX10_count_161 : decode cX10_count 161 = .ok (.aload_n 0, 1) := by decide +kernel
theorem dX10_count_162 : decode cX10_count 162 = .ok (.getfield 26, 3) := by decide +kernel
theorem dX10_count_165 : decode cX10_count 165 = .ok (.getfield 100, 3) := by decide +kernel
theorem dX10_count_168 : decode cX10_count 168 = .ok (.ireturn, 1) := by decide +kernel
theorem dX10_count_169 : decode cX10_count 169 = .ok (.ldc 82, 2) := by decide +kernel
theorem dX10_count_171 : decode cX10_count 171 = .ok (.ireturn, 1) := by decide +kernel
theorem dX10_step_0 : decode cX10_step 0 = .ok (.aload_n 0, 1) := by decide +kernel
theorem dX10_step_1 : decode cX10_step 1 = .ok (.getfield 96, 3) := by decide +kernel
theorem dX10_step_4 : decode cX10_step 4 = .ok (.ifCond .ne 6, 3) := by decide +kernel
theorem dX10_step_7 : decode cX10_step 7 = .ok (.ldc 114, 2) := by decide +kernel
theorem dX10_step_9 : decode cX10_step 9 = .ok (.ireturn, 1) := by decide +kernel
theorem dX10_step_10 : decode cX10_step 10 = .ok (.iload_n 1, 1) := by decide +kernel
theorem dX10_step_11 : decode cX10_step 11 = .ok (.ifCond .ge 6, 3) := by decide +kernel
theorem dX10_step_14 : decode cX10_step 14 = .ok (.ldc 82, 2) := by decide +kernel
theorem dX10_step_16 : decode cX10_step 16 = .ok (.ireturn, 1) := by decide +kernel
theorem dX10_step_17 : decode cX10_step 17 = .ok (.iload_n 1, 1) := by decide +kernel
theorem dX10_step_18 : decode cX10_step 18 = .ok (.aload_n 0, 1) := by decide +kernel
theorem dX10_step_19 : decode cX10_step 19 = .ok (.getfield 19, 3) := by decide +kernel
theorem dX10_step_22 : decode cX10_step 22 = .ok (.getfield 131, 3) := by decide +kernel
theorem dX10_step_25 : decode cX10_step 25 = .ok (.if_icmp .ge 15, 3) := by decide +kernel
theorem dX10_step_28 : decode cX10_step 28 = .ok (.aload_n 0, 1) := by decide +kernel
theorem dX10_step_29 : decode cX10_step 29 = .ok (.getfield 19, 3) := by decide +kernel
theorem dX10_step_32 : decode cX10_step 32 = .ok (.getfield 206, 3) := by decide +kernel
theorem dX10_step_35 : decode cX10_step 35 = .ok (.iload_n 1, 1) := by decide +kernel
theorem dX10_step_36 : decode cX10_step 36 = .ok (.iaload, 1) := by decide +kernel
theorem dX10_step_37 : decode cX10_step 37 = .ok (.goto 4, 3) := by decide +kernel
theorem dX10_step_40 : decode cX10_step 40 = .ok (.iconst (-1), 1) := by decide +kernel
theorem dX10_step_41 : decode cX10_step 41 = .ok (.ireturn, 1) := by decide +kernel
theorem dX10_line_0 : decode cX10_line 0 = .ok (.aload_n 0, 1) := by decide +kernel
theorem dX10_line_1 : decode cX10_line 1 = .ok (.iload_n 1, 1) := by decide +kernel
theorem dX10_line_2 : decode cX10_line 2 = .ok (.invokevirtual 209, 3) := by decide +kernel
theorem dX10_line_5 : decode cX10_line 5 = .ok (.ifCond .ne 6, 3) := by decide +kernel
theorem dX10_line_8 : decode cX10_line 8 = .ok (.ldc 114, 2) := by decide +kernel
theorem dX10_line_10 : decode cX10_line 10 = .ok (.ireturn, 1) := by decide +kernel
theorem dX10_line_11 : decode cX10_line 11 = .ok (.aload_n 0, 1) := by decide +kernel
theorem dX10_line_12 : decode cX10_line 12 = .ok (.invokevirtual 212, 3) := by decide +kernel
theorem dX10_line_15 : decode cX10_line 15 = .ok (.iload_n 2, 1) := by decide +kernel
theorem dX10_line_16 : decode cX10_line 16 = .ok (.tableswitch 91 0 5 #[40, 49, 58, 67, 73, 79], 40) := by decide +kernel
theorem dX10_line_56 : decode cX10_line 56 = .ok (.aload_n 0, 1) := by decide +kernel
theorem dX10_line_57 : decode cX10_line 57 = .ok (.getfield 33, 3) := by decide +kernel
theorem dX10_line_60 : decode cX10_line 60 = .ok (.iload_n 1, 1) := by decide +kernel
theorem dX10_line_61 : decode cX10_line 61 = .ok (.invokevirtual 215, 3) := by decide +kernel
theorem dX10_line_64 : decode cX10_line 64 = .ok (.ireturn, 1) := by decide +kernel
theorem dX10_line_65 : decode cX10_line 65 = .ok (.aload_n 0, 1) := by decide +kernel
theorem dX10_line_66 : decode cX10_line 66 = .ok (.getfield 33, 3) := by decide +kernel
theorem dX10_line_69 : decode cX10_line 69 = .ok (.iload_n 1, 1) := by decide +kernel
theorem dX10_line_70 : decode cX10_line 70 = .ok (.invokevirtual 218, 3) := by decide +kernel
theorem dX10_line_73 : decode cX10_line 73 = .ok (.ireturn, 1) := by decide +kernel
theorem dX10_line_74 : decode cX10_line 74 = .ok (.aload_n 0, 1) := by decide +kernel
theorem dX10_line_75 : decode cX10_line 75 = .ok (.getfield 33, 3) := by decide +kernel
theorem dX10_line_78 : decode cX10_line 78 = .ok (.iload_n 1, 1) := by decide +kernel
theorem dX10_line_79 : decode cX10_line 79 = .ok (.invokevirtual 221, 3) := by decide +kernel
theorem dX10_line_82 : decode cX10_line 82 = .ok (.ireturn, 1) := by decide +kernel
theorem dX10_line_83 : decode cX10_line 83 = .ok (.aload_n 0, 1) := by decide +kernel
theorem dX10_line_84 : decode cX10_line 84 = .ok (.iload_n 1, 1) := by decide +kernel
theorem dX10_line_85 : decode cX10_line 85 = .ok (.invokevirtual 224, 3) := by decide +kernel
theorem dX10_line_88 : decode cX10_line 88 = .ok (.ireturn, 1) := by decide +kernel
theorem dX10_line_89 : decode cX10_line 89 = .ok (.aload_n 0, 1) := by decide +kernel
theorem dX10_line_90 : decode cX10_line 90 = .ok (.iload_n 1, 1) := by decide +kernel
theorem dX10_line_91 : decode cX10_line 91 = .ok (.invokevirtual 227, 3) := by decide +kernel
theorem dX10_line_94 : decode cX10_line 94 = .ok (.ireturn, 1) := by decide +kernel
theorem dX10_line_95 : decode cX10_line 95 = .ok (.aload_n 0, 1) := by decide +kernel
theorem dX10_line_96 : decode cX10_line 96 = .ok (.getfield 75, 3) := by decide +kernel
theorem dX10_line_99 : decode cX10_line 99 = .ok (.getfield 203, 3) := by decide +kernel
theorem dX10_line_102 : decode cX10_line 102 = .ok (.iload_n 1, 1) := by decide +kernel
theorem dX10_line_103 : decode cX10_line 103 = .ok (.invokestatic 135, 3) := by decide +kernel
theorem dX10_line_106 : decode cX10_line 106 = .ok (.ireturn, 1) := by decide +kernel
theorem dX10_line_107 : decode cX10_line 107 = .ok (.ldc 82, 2) := by decide +kernel
theorem dX10_line_109 : decode cX10_line 109 = .ok (.ireturn, 1) := by decide +kernel
theorem dX10_least_0 : decode cX10_least 0 = .ok (.aload_n 0, 1) := by decide +kernel
theorem dX10_least_1 : decode cX10_least 1 = .ok (.iload_n 1, 1) := by decide +kernel
theorem dX10_least_2 : decode cX10_least 2 = .ok (.invokevirtual 209, 3) := by decide +kernel
theorem dX10_least_5 : decode cX10_least 5 = .ok (.ifCond .ne 6, 3) := by decide +kernel
theorem dX10_least_8 : decode cX10_least 8 = .ok (.ldc 114, 2) := by decide +kernel
theorem dX10_least_10 : decode cX10_least 10 = .ok (.ireturn, 1) := by decide +kernel
theorem dX10_least_11 : decode cX10_least 11 = .ok (.iload_n 2, 1) := by decide +kernel
theorem dX10_least_12 : decode cX10_least 12 = .ok (.ifCond .eq 11, 3) := by decide +kernel
theorem dX10_least_15 : decode cX10_least 15 = .ok (.iload_n 2, 1) := by decide +kernel
theorem dX10_least_16 : decode cX10_least 16 = .ok (.iconst 1, 1) := by decide +kernel
theorem dX10_least_17 : decode cX10_least 17 = .ok (.if_icmp .eq 6, 3) := by decide +kernel
theorem dX10_least_20 : decode cX10_least 20 = .ok (.ldc 82, 2) := by decide +kernel
theorem dX10_least_22 : decode cX10_least 22 = .ok (.ireturn, 1) := by decide +kernel
theorem dX10_least_23 : decode cX10_least 23 = .ok (.aload_n 0, 1) := by decide +kernel
theorem dX10_least_24 : decode cX10_least 24 = .ok (.invokevirtual 212, 3) := by decide +kernel
theorem dX10_least_27 : decode cX10_least 27 = .ok (.aload_n 0, 1) := by decide +kernel
theorem dX10_least_28 : decode cX10_least 28 = .ok (.getfield 33, 3) := by decide +kernel
theorem dX10_least_31 : decode cX10_least 31 = .ok (.getfield 230, 3) := by decide +kernel
theorem dX10_least_34 : decode cX10_least 34 = .ok (.iload_n 1, 1) := by decide +kernel
theorem dX10_least_35 : decode cX10_least 35 = .ok (.iaload, 1) := by decide +kernel
theorem dX10_least_36 : decode cX10_least 36 = .ok (.istore_n 3, 1) := by decide +kernel
theorem dX10_least_37 : decode cX10_least 37 = .ok (.iload_n 3, 1) := by decide +kernel
theorem dX10_least_38 : decode cX10_least 38 = .ok (.iconst (-1), 1) := by decide +kernel
theorem dX10_least_39 : decode cX10_least 39 = .ok (.if_icmp .ne 5, 3) := by decide +kernel
theorem dX10_least_42 : decode cX10_least 42 = .ok (.iconst (-1), 1) := by decide +kernel
theorem dX10_least_43 : decode cX10_least 43 = .ok (.ireturn, 1) := by decide +kernel
theorem dX10_least_44 : decode cX10_least 44 = .ok (.iload_n 2, 1) := by decide +kernel
theorem dX10_least_45 : decode cX10_least 45 = .ok (.ifCond .ne 13, 3) := by decide +kernel
theorem dX10_least_48 : decode cX10_least 48 = .ok (.aload_n 0, 1) := by decide +kernel
theorem dX10_least_49 : decode cX10_least 49 = .ok (.getfield 33, 3) := by decide +kernel
theorem dX10_least_52 : decode cX10_least 52 = .ok (.getfield 233, 3) := by decide +kernel
theorem dX10_least_55 : decode cX10_least 55 = .ok (.iload_n 3, 1) := by decide +kernel
theorem dX10_least_56 : decode cX10_least 56 = .ok (.iaload, 1) := by decide +kernel
theorem dX10_least_57 : decode cX10_least 57 = .ok (.ireturn, 1) := by decide +kernel
theorem dX10_least_58 : decode cX10_least 58 = .ok (.aload_n 0, 1) := by decide +kernel
theorem dX10_least_59 : decode cX10_least 59 = .ok (.invokevirtual 236, 3) := by decide +kernel
theorem dX10_least_62 : decode cX10_least 62 = .ok (.aload_n 0, 1) := by decide +kernel
theorem dX10_least_63 : decode cX10_least 63 = .ok (.getfield 61, 3) := by decide +kernel
theorem dX10_least_66 : decode cX10_least 66 = .ok (.aload_n 0, 1) := by decide +kernel
theorem dX10_least_67 : decode cX10_least 67 = .ok (.getfield 33, 3) := by decide +kernel
theorem dX10_least_70 : decode cX10_least 70 = .ok (.iload_n 1, 1) := by decide +kernel
theorem dX10_least_71 : decode cX10_least 71 = .ok (.invokevirtual 239, 3) := by decide +kernel
theorem dX10_least_74 : decode cX10_least 74 = .ok (.ireturn, 1) := by decide +kernel
theorem dX10_row_0 : decode cX10_row 0 = .ok (.aload_n 0, 1) := by decide +kernel
theorem dX10_row_1 : decode cX10_row 1 = .ok (.iload_n 1, 1) := by decide +kernel
theorem dX10_row_2 : decode cX10_row 2 = .ok (.invokevirtual 209, 3) := by decide +kernel
theorem dX10_row_5 : decode cX10_row 5 = .ok (.ifCond .ne 6, 3) := by decide +kernel
theorem dX10_row_8 : decode cX10_row 8 = .ok (.ldc 114, 2) := by decide +kernel
theorem dX10_row_10 : decode cX10_row 10 = .ok (.ireturn, 1) := by decide +kernel
theorem dX10_row_11 : decode cX10_row 11 = .ok (.iload_n 2, 1) := by decide +kernel
theorem dX10_row_12 : decode cX10_row 12 = .ok (.ifCond .ge 6, 3) := by decide +kernel
theorem dX10_row_15 : decode cX10_row 15 = .ok (.ldc 82, 2) := by decide +kernel
theorem dX10_row_17 : decode cX10_row 17 = .ok (.ireturn, 1) := by decide +kernel
theorem dX10_row_18 : decode cX10_row 18 = .ok (.aload_n 0, 1) := by decide +kernel
theorem dX10_row_19 : decode cX10_row 19 = .ok (.invokevirtual 212, 3) := by decide +kernel
theorem dX10_row_22 : decode cX10_row 22 = .ok (.aload_n 0, 1) := by decide +kernel
theorem dX10_row_23 : decode cX10_row 23 = .ok (.getfield 33, 3) := by decide +kernel
theorem dX10_row_26 : decode cX10_row 26 = .ok (.aload_n 0, 1) := by decide +kernel
theorem dX10_row_27 : decode cX10_row 27 = .ok (.getfield 33, 3) := by decide +kernel
theorem dX10_row_30 : decode cX10_row 30 = .ok (.getfield 230, 3) := by decide +kernel
theorem dX10_row_33 : decode cX10_row 33 = .ok (.iload_n 1, 1) := by decide +kernel
theorem dX10_row_34 : decode cX10_row 34 = .ok (.iaload, 1) := by decide +kernel
theorem dX10_row_35 : decode cX10_row 35 = .ok (.iload_n 2, 1) := by decide +kernel
theorem dX10_row_36 : decode cX10_row 36 = .ok (.invokevirtual 243, 3) := by decide +kernel
theorem dX10_row_39 : decode cX10_row 39 = .ok (.ireturn, 1) := by decide +kernel
theorem dX10_needs_0 : decode cX10_needs 0 = .ok (.aload_n 0, 1) := by decide +kernel
theorem dX10_needs_1 : decode cX10_needs 1 = .ok (.iload_n 1, 1) := by decide +kernel
theorem dX10_needs_2 : decode cX10_needs 2 = .ok (.invokevirtual 209, 3) := by decide +kernel
theorem dX10_needs_5 : decode cX10_needs 5 = .ok (.ifCond .ne 6, 3) := by decide +kernel
theorem dX10_needs_8 : decode cX10_needs 8 = .ok (.ldc 114, 2) := by decide +kernel
theorem dX10_needs_10 : decode cX10_needs 10 = .ok (.ireturn, 1) := by decide +kernel
theorem dX10_needs_11 : decode cX10_needs 11 = .ok (.aload_n 0, 1) := by decide +kernel
theorem dX10_needs_12 : decode cX10_needs 12 = .ok (.invokevirtual 212, 3) := by decide +kernel
theorem dX10_needs_15 : decode cX10_needs 15 = .ok (.aload_n 0, 1) := by decide +kernel
theorem dX10_needs_16 : decode cX10_needs 16 = .ok (.getfield 33, 3) := by decide +kernel
theorem dX10_needs_19 : decode cX10_needs 19 = .ok (.getfield 230, 3) := by decide +kernel
theorem dX10_needs_22 : decode cX10_needs 22 = .ok (.iload_n 1, 1) := by decide +kernel
theorem dX10_needs_23 : decode cX10_needs 23 = .ok (.iaload, 1) := by decide +kernel
theorem dX10_needs_24 : decode cX10_needs 24 = .ok (.iconst (-1), 1) := by decide +kernel
theorem dX10_needs_25 : decode cX10_needs 25 = .ok (.if_icmp .ne 5, 3) := by decide +kernel
theorem dX10_needs_28 : decode cX10_needs 28 = .ok (.iconst (-1), 1) := by decide +kernel
theorem dX10_needs_29 : decode cX10_needs 29 = .ok (.ireturn, 1) := by decide +kernel
theorem dX10_needs_30 : decode cX10_needs 30 = .ok (.iconst 0, 1) := by decide +kernel
theorem dX10_needs_31 : decode cX10_needs 31 = .ok (.istore_n 2, 1) := by decide +kernel
theorem dX10_needs_32 : decode cX10_needs 32 = .ok (.iconst 0, 1) := by decide +kernel
theorem dX10_needs_33 : decode cX10_needs 33 = .ok (.istore_n 3, 1) := by decide +kernel
theorem dX10_needs_34 : decode cX10_needs 34 = .ok (.iload_n 3, 1) := by decide +kernel
theorem dX10_needs_35 : decode cX10_needs 35 = .ok (.bipush 6, 2) := by decide +kernel
theorem dX10_needs_37 : decode cX10_needs 37 = .ok (.if_icmp .ge 52, 3) := by decide +kernel
theorem dX10_needs_40 : decode cX10_needs 40 = .ok (.aload_n 0, 1) := by decide +kernel
theorem dX10_needs_41 : decode cX10_needs 41 = .ok (.getfield 19, 3) := by decide +kernel
theorem dX10_needs_44 : decode cX10_needs 44 = .ok (.getfield 246, 3) := by decide +kernel
theorem dX10_needs_47 : decode cX10_needs 47 = .ok (.iload_n 3, 1) := by decide +kernel
theorem dX10_needs_48 : decode cX10_needs 48 = .ok (.invokestatic 135, 3) := by decide +kernel
theorem dX10_needs_51 : decode cX10_needs 51 = .ok (.ifCond .ne 32, 3) := by decide +kernel
theorem dX10_needs_54 : decode cX10_needs 54 = .ok (.aload_n 0, 1) := by decide +kernel
theorem dX10_needs_55 : decode cX10_needs 55 = .ok (.getfield 40, 3) := by decide +kernel
theorem dX10_needs_58 : decode cX10_needs 58 = .ok (.aload_n 0, 1) := by decide +kernel
theorem dX10_needs_59 : decode cX10_needs 59 = .ok (.getfield 33, 3) := by decide +kernel
theorem dX10_needs_62 : decode cX10_needs 62 = .ok (.iload_n 1, 1) := by decide +kernel
theorem dX10_needs_63 : decode cX10_needs 63 = .ok (.aload_n 0, 1) := by decide +kernel
theorem dX10_needs_64 : decode cX10_needs 64 = .ok (.getfield 75, 3) := by decide +kernel
theorem dX10_needs_67 : decode cX10_needs 67 = .ok (.iload_n 3, 1) := by decide +kernel
theorem dX10_needs_68 : decode cX10_needs 68 = .ok (.invokevirtual 249, 3) := by decide +kernel
theorem dX10_needs_71 : decode cX10_needs 71 = .ok (.invokevirtual 252, 3) := by decide +kernel
theorem dX10_needs_74 : decode cX10_needs 74 = .ok (.ifCond .ne 9, 3) := by decide +kernel
theorem dX10_needs_77 : decode cX10_needs 77 = .ok (.iload_n 2, 1) := by decide +kernel
theorem dX10_needs_78 : decode cX10_needs 78 = .ok (.iconst 1, 1) := by decide +kernel
theorem dX10_needs_79 : decode cX10_needs 79 = .ok (.iload_n 3, 1) := by decide +kernel
theorem dX10_needs_80 : decode cX10_needs 80 = .ok (.ishl, 1) := by decide +kernel
theorem dX10_needs_81 : decode cX10_needs 81 = .ok (.ior, 1) := by decide +kernel
theorem dX10_needs_82 : decode cX10_needs 82 = .ok (.istore_n 2, 1) := by decide +kernel
theorem dX10_needs_83 : decode cX10_needs 83 = .ok (.iinc 3 1, 3) := by decide +kernel
theorem dX10_needs_86 : decode cX10_needs 86 = .ok (.goto (-52), 3) := by decide +kernel
theorem dX10_needs_89 : decode cX10_needs 89 = .ok (.iload_n 2, 1) := by decide +kernel
theorem dX10_needs_90 : decode cX10_needs 90 = .ok (.ireturn, 1) := by decide +kernel
theorem dX10_must_0 : decode cX10_must 0 = .ok (.aload_n 0, 1) := by decide +kernel
theorem dX10_must_1 : decode cX10_must 1 = .ok (.iload_n 1, 1) := by decide +kernel
theorem dX10_must_2 : decode cX10_must 2 = .ok (.invokevirtual 209, 3) := by decide +kernel
theorem dX10_must_5 : decode cX10_must 5 = .ok (.ifCond .ne 6, 3) := by decide +kernel
theorem dX10_must_8 : decode cX10_must 8 = .ok (.ldc 114, 2) := by decide +kernel
theorem dX10_must_10 : decode cX10_must 10 = .ok (.ireturn, 1) := by decide +kernel
theorem dX10_must_11 : decode cX10_must 11 = .ok (.iload_n 2, 1) := by decide +kernel
theorem dX10_must_12 : decode cX10_must 12 = .ok (.ifCond .ge 6, 3) := by decide +kernel
theorem dX10_must_15 : decode cX10_must 15 = .ok (.ldc 82, 2) := by decide +kernel
theorem dX10_must_17 : decode cX10_must 17 = .ok (.ireturn, 1) := by decide +kernel
theorem dX10_must_18 : decode cX10_must 18 = .ok (.aload_n 0, 1) := by decide +kernel
theorem dX10_must_19 : decode cX10_must 19 = .ok (.invokevirtual 212, 3) := by decide +kernel
theorem dX10_must_22 : decode cX10_must 22 = .ok (.aload_n 0, 1) := by decide +kernel
theorem dX10_must_23 : decode cX10_must 23 = .ok (.getfield 33, 3) := by decide +kernel
theorem dX10_must_26 : decode cX10_must 26 = .ok (.aload_n 0, 1) := by decide +kernel
theorem dX10_must_27 : decode cX10_must 27 = .ok (.getfield 33, 3) := by decide +kernel
theorem dX10_must_30 : decode cX10_must 30 = .ok (.getfield 230, 3) := by decide +kernel
theorem dX10_must_33 : decode cX10_must 33 = .ok (.iload_n 1, 1) := by decide +kernel
theorem dX10_must_34 : decode cX10_must 34 = .ok (.iaload, 1) := by decide +kernel
theorem dX10_must_35 : decode cX10_must 35 = .ok (.invokevirtual 256, 3) := by decide +kernel
theorem dX10_must_38 : decode cX10_must 38 = .ok (.istore_n 3, 1) := by decide +kernel
theorem dX10_must_39 : decode cX10_must 39 = .ok (.iconst 0, 1) := by decide +kernel
theorem dX10_must_40 : decode cX10_must 40 = .ok (.istore 4, 2) := by decide +kernel
theorem dX10_must_42 : decode cX10_must 42 = .ok (.iconst 0, 1) := by decide +kernel
theorem dX10_must_43 : decode cX10_must 43 = .ok (.istore 5, 2) := by decide +kernel
theorem dX10_must_45 : decode cX10_must 45 = .ok (.iload 5, 2) := by decide +kernel
theorem dX10_must_47 : decode cX10_must 47 = .ok (.aload_n 0, 1) := by decide +kernel
theorem dX10_must_48 : decode cX10_must 48 = .ok (.getfield 75, 3) := by decide +kernel
theorem dX10_must_51 : decode cX10_must 51 = .ok (.getfield 108, 3) := by decide +kernel
theorem dX10_must_54 : decode cX10_must 54 = .ok (.if_icmp .ge 50, 3) := by decide +kernel
theorem dX10_must_57 : decode cX10_must 57 = .ok (.iload_n 3, 1) := by decide +kernel
theorem dX10_must_58 : decode cX10_must 58 = .ok (.iload 5, 2) := by decide +kernel
theorem dX10_must_60 : decode cX10_must 60 = .ok (.invokestatic 135, 3) := by decide +kernel
theorem dX10_must_63 : decode cX10_must 63 = .ok (.iconst 1, 1) := by decide +kernel
theorem dX10_must_64 : decode cX10_must 64 = .ok (.if_icmp .ne 34, 3) := by decide +kernel
theorem dX10_must_67 : decode cX10_must 67 = .ok (.aload_n 0, 1) := by decide +kernel
theorem dX10_must_68 : decode cX10_must 68 = .ok (.getfield 40, 3) := by decide +kernel
theorem dX10_must_71 : decode cX10_must 71 = .ok (.aload_n 0, 1) := by decide +kernel
theorem dX10_must_72 : decode cX10_must 72 = .ok (.getfield 33, 3) := by decide +kernel
theorem dX10_must_75 : decode cX10_must 75 = .ok (.iload_n 1, 1) := by decide +kernel
theorem dX10_must_76 : decode cX10_must 76 = .ok (.iconst 1, 1) := by decide +kernel
theorem dX10_must_77 : decode cX10_must 77 = .ok (.iload 5, 2) := by decide +kernel
theorem dX10_must_79 : decode cX10_must 79 = .ok (.ishl, 1) := by decide +kernel
theorem dX10_must_80 : decode cX10_must 80 = .ok (.invokevirtual 252, 3) := by decide +kernel
theorem dX10_must_83 : decode cX10_must 83 = .ok (.ifCond .ne 15, 3) := by decide +kernel
theorem dX10_must_86 : decode cX10_must 86 = .ok (.iload 4, 2) := by decide +kernel
theorem dX10_must_88 : decode cX10_must 88 = .ok (.iload_n 2, 1) := by decide +kernel
theorem dX10_must_89 : decode cX10_must 89 = .ok (.if_icmp .ne 6, 3) := by decide +kernel
theorem dX10_must_92 : decode cX10_must 92 = .ok (.iload 5, 2) := by decide +kernel
theorem dX10_must_94 : decode cX10_must 94 = .ok (.ireturn, 1) := by decide +kernel
theorem dX10_must_95 : decode cX10_must 95 = .ok (.iinc 4 1, 3) := by decide +kernel
theorem dX10_must_98 : decode cX10_must 98 = .ok (.iinc 5 1, 3) := by decide +kernel
theorem dX10_must_101 : decode cX10_must 101 = .ok (.goto (-56), 3) := by decide +kernel
theorem dX10_must_104 : decode cX10_must 104 = .ok (.iconst (-1), 1) := by decide +kernel
theorem dX10_must_105 : decode cX10_must 105 = .ok (.ireturn, 1) := by decide +kernel
theorem dX10_loop_0 : decode cX10_loop 0 = .ok (.aload_n 0, 1) := by decide +kernel
theorem dX10_loop_1 : decode cX10_loop 1 = .ok (.iload_n 1, 1) := by decide +kernel
theorem dX10_loop_2 : decode cX10_loop 2 = .ok (.invokevirtual 209, 3) := by decide +kernel
theorem dX10_loop_5 : decode cX10_loop 5 = .ok (.ifCond .ne 6, 3) := by decide +kernel
theorem dX10_loop_8 : decode cX10_loop 8 = .ok (.ldc 114, 2) := by decide +kernel
theorem dX10_loop_10 : decode cX10_loop 10 = .ok (.ireturn, 1) := by decide +kernel
theorem dX10_loop_11 : decode cX10_loop 11 = .ok (.aload_n 0, 1) := by decide +kernel
theorem dX10_loop_12 : decode cX10_loop 12 = .ok (.invokevirtual 212, 3) := by decide +kernel
theorem dX10_loop_15 : decode cX10_loop 15 = .ok (.aload_n 0, 1) := by decide +kernel
theorem dX10_loop_16 : decode cX10_loop 16 = .ok (.invokevirtual 259, 3) := by decide +kernel
theorem dX10_loop_19 : decode cX10_loop 19 = .ok (.aload_n 0, 1) := by decide +kernel
theorem dX10_loop_20 : decode cX10_loop 20 = .ok (.getfield 33, 3) := by decide +kernel
theorem dX10_loop_23 : decode cX10_loop 23 = .ok (.getfield 262, 3) := by decide +kernel
theorem dX10_loop_26 : decode cX10_loop 26 = .ok (.iconst 1, 1) := by decide +kernel
theorem dX10_loop_27 : decode cX10_loop 27 = .ok (.iadd, 1) := by decide +kernel
theorem dX10_loop_28 : decode cX10_loop 28 = .ok (.istore_n 2, 1) := by decide +kernel
theorem dX10_loop_29 : decode cX10_loop 29 = .ok (.iload_n 2, 1) := by decide +kernel
theorem dX10_loop_30 : decode cX10_loop 30 = .ok (.istore_n 3, 1) := by decide +kernel
theorem dX10_loop_31 : decode cX10_loop 31 = .ok (.iconst 0, 1) := by decide +kernel
theorem dX10_loop_32 : decode cX10_loop 32 = .ok (.istore 4, 2) := by decide +kernel
theorem dX10_loop_34 : decode cX10_loop 34 = .ok (.iload 4, 2) := by decide +kernel
theorem dX10_loop_36 : decode cX10_loop 36 = .ok (.aload_n 0, 1) := by decide +kernel
theorem dX10_loop_37 : decode cX10_loop 37 = .ok (.getfield 33, 3) := by decide +kernel
theorem dX10_loop_40 : decode cX10_loop 40 = .ok (.getfield 262, 3) := by decide +kernel
theorem dX10_loop_43 : decode cX10_loop 43 = .ok (.if_icmp .ge 50, 3) := by decide +kernel
theorem dX10_loop_46 : decode cX10_loop 46 = .ok (.aload_n 0, 1) := by decide +kernel
theorem dX10_loop_47 : decode cX10_loop 47 = .ok (.getfield 33, 3) := by decide +kernel
theorem dX10_loop_50 : decode cX10_loop 50 = .ok (.iload 4, 2) := by decide +kernel
theorem dX10_loop_52 : decode cX10_loop 52 = .ok (.invokevirtual 265, 3) := by decide +kernel
theorem dX10_loop_55 : decode cX10_loop 55 = .ok (.iload_n 1, 1) := by decide +kernel
theorem dX10_loop_56 : decode cX10_loop 56 = .ok (.if_icmp .ne 31, 3) := by decide +kernel
theorem dX10_loop_59 : decode cX10_loop 59 = .ok (.aload_n 0, 1) := by decide +kernel
theorem dX10_loop_60 : decode cX10_loop 60 = .ok (.getfield 54, 3) := by decide +kernel
theorem dX10_loop_63 : decode cX10_loop 63 = .ok (.getfield 268, 3) := by decide +kernel
theorem dX10_loop_66 : decode cX10_loop 66 = .ok (.iload 4, 2) := by decide +kernel
theorem dX10_loop_68 : decode cX10_loop 68 = .ok (.baload, 1) := by decide +kernel
theorem dX10_loop_69 : decode cX10_loop 69 = .ok (.ifCond .eq 18, 3) := by decide +kernel
theorem dX10_loop_72 : decode cX10_loop 72 = .ok (.aload_n 0, 1) := by decide +kernel
theorem dX10_loop_73 : decode cX10_loop 73 = .ok (.getfield 40, 3) := by decide +kernel
theorem dX10_loop_76 : decode cX10_loop 76 = .ok (.aload_n 0, 1) := by decide +kernel
theorem dX10_loop_77 : decode cX10_loop 77 = .ok (.getfield 33, 3) := by decide +kernel
theorem dX10_loop_80 : decode cX10_loop 80 = .ok (.iload 4, 2) := by decide +kernel
theorem dX10_loop_82 : decode cX10_loop 82 = .ok (.iload_n 3, 1) := by decide +kernel
theorem dX10_loop_83 : decode cX10_loop 83 = .ok (.invokevirtual 272, 3) := by decide +kernel
theorem dX10_loop_86 : decode cX10_loop 86 = .ok (.istore_n 3, 1) := by decide +kernel
theorem dX10_loop_87 : decode cX10_loop 87 = .ok (.iinc 4 1, 3) := by decide +kernel
theorem dX10_loop_90 : decode cX10_loop 90 = .ok (.goto (-56), 3) := by decide +kernel
theorem dX10_loop_93 : decode cX10_loop 93 = .ok (.iload_n 3, 1) := by decide +kernel
theorem dX10_loop_94 : decode cX10_loop 94 = .ok (.iload_n 2, 1) := by decide +kernel
theorem dX10_loop_95 : decode cX10_loop 95 = .ok (.if_icmp .ge 7, 3) := by decide +kernel
theorem dX10_loop_98 : decode cX10_loop 98 = .ok (.iload_n 3, 1) := by decide +kernel
theorem dX10_loop_99 : decode cX10_loop 99 = .ok (.goto 4, 3) := by decide +kernel
theorem dX10_loop_102 : decode cX10_loop 102 = .ok (.iconst (-1), 1) := by decide +kernel
theorem dX10_loop_103 : decode cX10_loop 103 = .ok (.ireturn, 1) := by decide +kernel
theorem dX10_use_0 : decode cX10_use 0 = .ok (.aload_n 0, 1) := by decide +kernel
theorem dX10_use_1 : decode cX10_use 1 = .ok (.iload_n 1, 1) := by decide +kernel
theorem dX10_use_2 : decode cX10_use 2 = .ok (.invokevirtual 118, 3) := by decide +kernel
theorem dX10_use_5 : decode cX10_use 5 = .ok (.ifCond .ne 6, 3) := by decide +kernel
theorem dX10_use_8 : decode cX10_use 8 = .ok (.ldc 114, 2) := by decide +kernel
theorem dX10_use_10 : decode cX10_use 10 = .ok (.ireturn, 1) := by decide +kernel
theorem dX10_use_11 : decode cX10_use 11 = .ok (.aload_n 0, 1) := by decide +kernel
theorem dX10_use_12 : decode cX10_use 12 = .ok (.invokevirtual 212, 3) := by decide +kernel
theorem dX10_use_15 : decode cX10_use 15 = .ok (.aload_n 0, 1) := by decide +kernel
theorem dX10_use_16 : decode cX10_use 16 = .ok (.getfield 33, 3) := by decide +kernel
theorem dX10_use_19 : decode cX10_use 19 = .ok (.iload_n 1, 1) := by decide +kernel
theorem dX10_use_20 : decode cX10_use 20 = .ok (.invokevirtual 276, 3) := by decide +kernel
theorem dX10_use_23 : decode cX10_use 23 = .ok (.istore_n 2, 1) := by decide +kernel
theorem dX10_use_24 : decode cX10_use 24 = .ok (.iload_n 2, 1) := by decide +kernel
theorem dX10_use_25 : decode cX10_use 25 = .ok (.ifCond .ne 5, 3) := by decide +kernel
theorem dX10_use_28 : decode cX10_use 28 = .ok (.iconst 0, 1) := by decide +kernel
theorem dX10_use_29 : decode cX10_use 29 = .ok (.ireturn, 1) := by decide +kernel
theorem dX10_use_30 : decode cX10_use 30 = .ok (.iload_n 2, 1) := by decide +kernel
theorem dX10_use_31 : decode cX10_use 31 = .ok (.aload_n 0, 1) := by decide +kernel
theorem dX10_use_32 : decode cX10_use 32 = .ok (.getfield 33, 3) := by decide +kernel
theorem dX10_use_35 : decode cX10_use 35 = .ok (.aload_n 0, 1) := by decide +kernel
theorem dX10_use_36 : decode cX10_use 36 = .ok (.getfield 75, 3) := by decide +kernel
theorem dX10_use_39 : decode cX10_use 39 = .ok (.getfield 169, 3) := by decide +kernel
theorem dX10_use_42 : decode cX10_use 42 = .ok (.iload_n 1, 1) := by decide +kernel
theorem dX10_use_43 : decode cX10_use 43 = .ok (.iaload, 1) := by decide +kernel
theorem dX10_use_44 : decode cX10_use 44 = .ok (.invokevirtual 215, 3) := by decide +kernel
theorem dX10_use_47 : decode cX10_use 47 = .ok (.if_icmp .ne 7, 3) := by decide +kernel
theorem dX10_use_50 : decode cX10_use 50 = .ok (.iconst 2, 1) := by decide +kernel
theorem dX10_use_51 : decode cX10_use 51 = .ok (.goto 4, 3) := by decide +kernel
theorem dX10_use_54 : decode cX10_use 54 = .ok (.iconst 1, 1) := by decide +kernel
theorem dX10_use_55 : decode cX10_use 55 = .ok (.ireturn, 1) := by decide +kernel
theorem dX10_mark_0 : decode cX10_mark 0 = .ok (.aload_n 0, 1) := by decide +kernel
theorem dX10_mark_1 : decode cX10_mark 1 = .ok (.getfield 96, 3) := by decide +kernel
theorem dX10_mark_4 : decode cX10_mark 4 = .ok (.ifCond .eq 13, 3) := by decide +kernel
theorem dX10_mark_7 : decode cX10_mark 7 = .ok (.iload_n 1, 1) := by decide +kernel
theorem dX10_mark_8 : decode cX10_mark 8 = .ok (.ifCond .lt 9, 3) := by decide +kernel
theorem dX10_mark_11 : decode cX10_mark 11 = .ok (.iload_n 1, 1) := by decide +kernel
theorem dX10_mark_12 : decode cX10_mark 12 = .ok (.bipush 6, 2) := by decide +kernel
theorem dX10_mark_14 : decode cX10_mark 14 = .ok (.if_icmp .lt 6, 3) := by decide +kernel
theorem dX10_mark_17 : decode cX10_mark 17 = .ok (.ldc 114, 2) := by decide +kernel
theorem dX10_mark_19 : decode cX10_mark 19 = .ok (.ireturn, 1) := by decide +kernel
theorem dX10_mark_20 : decode cX10_mark 20 = .ok (.iload_n 2, 1) := by decide +kernel
theorem dX10_mark_21 : decode cX10_mark 21 = .ok (.tableswitch 77 0 3 #[31, 40, 49, 63], 31) := by decide +kernel
theorem dX10_mark_52 : decode cX10_mark 52 = .ok (.aload_n 0, 1) := by decide +kernel
theorem dX10_mark_53 : decode cX10_mark 53 = .ok (.getfield 75, 3) := by decide +kernel
theorem dX10_mark_56 : decode cX10_mark 56 = .ok (.iload_n 1, 1) := by decide +kernel
theorem dX10_mark_57 : decode cX10_mark 57 = .ok (.invokevirtual 279, 3) := by decide +kernel
theorem dX10_mark_60 : decode cX10_mark 60 = .ok (.ireturn, 1) := by decide +kernel
theorem dX10_mark_61 : decode cX10_mark 61 = .ok (.aload_n 0, 1) := by decide +kernel
theorem dX10_mark_62 : decode cX10_mark 62 = .ok (.getfield 75, 3) := by decide +kernel
theorem dX10_mark_65 : decode cX10_mark 65 = .ok (.iload_n 1, 1) := by decide +kernel
theorem dX10_mark_66 : decode cX10_mark 66 = .ok (.invokevirtual 282, 3) := by decide +kernel
theorem dX10_mark_69 : decode cX10_mark 69 = .ok (.ireturn, 1) := by decide +kernel
theorem dX10_mark_70 : decode cX10_mark 70 = .ok (.aload_n 0, 1) := by decide +kernel
theorem dX10_mark_71 : decode cX10_mark 71 = .ok (.iload_n 1, 1) := by decide +kernel
theorem dX10_mark_72 : decode cX10_mark 72 = .ok (.invokevirtual 285, 3) := by decide +kernel
theorem dX10_mark_75 : decode cX10_mark 75 = .ok (.ifCond .eq 7, 3) := by decide +kernel
theorem dX10_mark_78 : decode cX10_mark 78 = .ok (.iconst 1, 1) := by decide +kernel
theorem dX10_mark_79 : decode cX10_mark 79 = .ok (.goto 4, 3) := by decide +kernel
theorem dX10_mark_82 : decode cX10_mark 82 = .ok (.iconst 0, 1) := by decide +kernel
theorem dX10_mark_83 : decode cX10_mark 83 = .ok (.ireturn, 1) := by decide +kernel
theorem dX10_mark_84 : decode cX10_mark 84 = .ok (.aload_n 0, 1) := by decide +kernel
theorem dX10_mark_85 : decode cX10_mark 85 = .ok (.iload_n 1, 1) := by decide +kernel
theorem dX10_mark_86 : decode cX10_mark 86 = .ok (.invokevirtual 288, 3) := by decide +kernel
theorem dX10_mark_89 : decode cX10_mark 89 = .ok (.ifCond .eq 7, 3) := by decide +kernel
theorem dX10_mark_92 : decode cX10_mark 92 = .ok (.iconst 1, 1) := by decide +kernel
theorem dX10_mark_93 : decode cX10_mark 93 = .ok (.goto 4, 3) := by decide +kernel
theorem dX10_mark_96 : decode cX10_mark 96 = .ok (.iconst 0, 1) := by decide +kernel
theorem dX10_mark_97 : decode cX10_mark 97 = .ok (.ireturn, 1) := by decide +kernel
theorem dX10_mark_98 : decode cX10_mark 98 = .ok (.ldc 82, 2) := by decide +kernel
theorem dX10_mark_100 : decode cX10_mark 100 = .ok (.ireturn, 1) := by decide +kernel
theorem dX10_whole_0 : decode cX10_whole 0 = .ok (.aload_n 0, 1) := by decide +kernel
theorem dX10_whole_1 : decode cX10_whole 1 = .ok (.getfield 96, 3) := by decide +kernel
theorem dX10_whole_4 : decode cX10_whole 4 = .ok (.ifCond .ne 6, 3) := by decide +kernel
theorem dX10_whole_7 : decode cX10_whole 7 = .ok (.ldc 114, 2) := by decide +kernel
theorem dX10_whole_9 : decode cX10_whole 9 = .ok (.ireturn, 1) := by decide +kernel
theorem dX10_whole_10 : decode cX10_whole 10 = .ok (.aload_n 0, 1) := by decide +kernel
theorem dX10_whole_11 : decode cX10_whole 11 = .ok (.invokevirtual 212, 3) := by decide +kernel
theorem dX10_whole_14 : decode cX10_whole 14 = .ok (.iload_n 1, 1) := by decide +kernel
theorem dX10_whole_15 : decode cX10_whole 15 = .ok (.tableswitch 107 0 7 #[45, 53, 71, 76, 81, 86, 94, 99], 45) := by decide +kernel
theorem dX10_whole_60 : decode cX10_whole 60 = .ok (.aload_n 0, 1) := by decide +kernel
theorem dX10_whole_61 : decode cX10_whole 61 = .ok (.getfield 33, 3) := by decide +kernel
theorem dX10_whole_64 : decode cX10_whole 64 = .ok (.getfield 262, 3) := by decide +kernel
theorem dX10_whole_67 : decode cX10_whole 67 = .ok (.ireturn, 1) := by decide +kernel
theorem dX10_whole_68 : decode cX10_whole 68 = .ok (.aload_n 0, 1) := by decide +kernel
theorem dX10_whole_69 : decode cX10_whole 69 = .ok (.getfield 75, 3) := by decide +kernel
theorem dX10_whole_72 : decode cX10_whole 72 = .ok (.getfield 200, 3) := by decide +kernel
theorem dX10_whole_75 : decode cX10_whole 75 = .ok (.aload_n 0, 1) := by decide +kernel
theorem dX10_whole_76 : decode cX10_whole 76 = .ok (.getfield 33, 3) := by decide +kernel
theorem dX10_whole_79 : decode cX10_whole 79 = .ok (.invokevirtual 291, 3) := by decide +kernel
theorem dX10_whole_82 : decode cX10_whole 82 = .ok (.iconst (-1), 1) := by decide +kernel
theorem dX10_whole_83 : decode cX10_whole 83 = .ok (.ixor, 1) := by decide +kernel
theorem dX10_whole_84 : decode cX10_whole 84 = .ok (.iand, 1) := by decide +kernel
theorem dX10_whole_85 : decode cX10_whole 85 = .ok (.ireturn, 1) := by decide +kernel
theorem dX10_whole_86 : decode cX10_whole 86 = .ok (.aload_n 0, 1) := by decide +kernel
theorem dX10_whole_87 : decode cX10_whole 87 = .ok (.invokevirtual 294, 3) := by decide +kernel
theorem dX10_whole_90 : decode cX10_whole 90 = .ok (.ireturn, 1) := by decide +kernel
theorem dX10_whole_91 : decode cX10_whole 91 = .ok (.aload_n 0, 1) := by decide +kernel
theorem dX10_whole_92 : decode cX10_whole 92 = .ok (.invokevirtual 297, 3) := by decide +kernel
theorem dX10_whole_95 : decode cX10_whole 95 = .ok (.ireturn, 1) := by decide +kernel
theorem dX10_whole_96 : decode cX10_whole 96 = .ok (.aload_n 0, 1) := by decide +kernel
theorem dX10_whole_97 : decode cX10_whole 97 = .ok (.invokevirtual 300, 3) := by decide +kernel
theorem dX10_whole_100 : decode cX10_whole 100 = .ok (.ireturn, 1) := by decide +kernel
theorem dX10_whole_101 : decode cX10_whole 101 = .ok (.aload_n 0, 1) := by decide +kernel
theorem dX10_whole_102 : decode cX10_whole 102 = .ok (.getfield 33, 3) := by decide +kernel
theorem dX10_whole_105 : decode cX10_whole 105 = .ok (.invokevirtual 303, 3) := by decide +kernel
theorem dX10_whole_108 : decode cX10_whole 108 = .ok (.ireturn, 1) := by decide +kernel
theorem dX10_whole_109 : decode cX10_whole 109 = .ok (.aload_n 0, 1) := by decide +kernel
theorem dX10_whole_110 : decode cX10_whole 110 = .ok (.invokevirtual 306, 3) := by decide +kernel
theorem dX10_whole_113 : decode cX10_whole 113 = .ok (.ireturn, 1) := by decide +kernel
theorem dX10_whole_114 : decode cX10_whole 114 = .ok (.aload_n 0, 1) := by decide +kernel
theorem dX10_whole_115 : decode cX10_whole 115 = .ok (.getfield 33, 3) := by decide +kernel
theorem dX10_whole_118 : decode cX10_whole 118 = .ok (.invokevirtual 309, 3) := by decide +kernel
theorem dX10_whole_121 : decode cX10_whole 121 = .ok (.ireturn, 1) := by decide +kernel
theorem dX10_whole_122 : decode cX10_whole 122 = .ok (.ldc 82, 2) := by decide +kernel
theorem dX10_whole_124 : decode cX10_whole 124 = .ok (.ireturn, 1) := by decide +kernel
theorem dX10_rows_0 : decode cX10_rows 0 = .ok (.aload_n 0, 1) := by decide +kernel
theorem dX10_rows_1 : decode cX10_rows 1 = .ok (.iload_n 1, 1) := by decide +kernel
theorem dX10_rows_2 : decode cX10_rows 2 = .ok (.invokevirtual 209, 3) := by decide +kernel
theorem dX10_rows_5 : decode cX10_rows 5 = .ok (.ifCond .ne 7, 3) := by decide +kernel
theorem dX10_rows_8 : decode cX10_rows 8 = .ok (.ldc2_w 312, 3) := by decide +kernel
theorem dX10_rows_11 : decode cX10_rows 11 = .ok (.lreturn, 1) := by decide +kernel
theorem dX10_rows_12 : decode cX10_rows 12 = .ok (.iload_n 2, 1) := by decide +kernel
theorem dX10_rows_13 : decode cX10_rows 13 = .ok (.ifCond .lt 9, 3) := by decide +kernel
theorem dX10_rows_16 : decode cX10_rows 16 = .ok (.iload_n 2, 1) := by decide +kernel
theorem dX10_rows_17 : decode cX10_rows 17 = .ok (.bipush 80, 2) := by decide +kernel
theorem dX10_rows_19 : decode cX10_rows 19 = .ok (.if_icmp .le 7, 3) := by decide +kernel
theorem dX10_rows_22 : decode cX10_rows 22 = .ok (.ldc2_w 314, 3) := by decide +kernel
theorem dX10_rows_25 : decode cX10_rows 25 = .ok (.lreturn, 1) := by decide +kernel
theorem dX10_rows_26 : decode cX10_rows 26 = .ok (.aload_n 0, 1) := by decide +kernel
theorem dX10_rows_27 : decode cX10_rows 27 = .ok (.invokevirtual 212, 3) := by decide +kernel
theorem dX10_rows_30 : decode cX10_rows 30 = .ok (.aload_n 0, 1) := by decide +kernel
theorem dX10_rows_31 : decode cX10_rows 31 = .ok (.getfield 68, 3) := by decide +kernel
theorem dX10_rows_34 : decode cX10_rows 34 = .ok (.aload_n 0, 1) := by decide +kernel
theorem dX10_rows_35 : decode cX10_rows 35 = .ok (.getfield 33, 3) := by decide +kernel
theorem dX10_rows_38 : decode cX10_rows 38 = .ok (.iload_n 1, 1) := by decide +kernel
theorem dX10_rows_39 : decode cX10_rows 39 = .ok (.iload_n 2, 1) := by decide +kernel
theorem dX10_rows_40 : decode cX10_rows 40 = .ok (.invokevirtual 316, 3) := by decide +kernel
theorem dX10_rows_43 : decode cX10_rows 43 = .ok (.lreturn, 1) := by decide +kernel
theorem dX10_bit_0 : decode cX10_bit 0 = .ok (.iload_n 0, 1) := by decide +kernel
theorem dX10_bit_1 : decode cX10_bit 1 = .ok (.iload_n 1, 1) := by decide +kernel
theorem dX10_bit_2 : decode cX10_bit 2 = .ok (.ishr, 1) := by decide +kernel
theorem dX10_bit_3 : decode cX10_bit 3 = .ok (.iconst 1, 1) := by decide +kernel
theorem dX10_bit_4 : decode cX10_bit 4 = .ok (.iand, 1) := by decide +kernel
theorem dX10_bit_5 : decode cX10_bit 5 = .ok (.ireturn, 1) := by decide +kernel
theorem dX10_isLine_0 : decode cX10_isLine 0 = .ok (.aload_n 0, 1) := by decide +kernel
theorem dX10_isLine_1 : decode cX10_isLine 1 = .ok (.getfield 96, 3) := by decide +kernel
theorem dX10_isLine_4 : decode cX10_isLine 4 = .ok (.ifCond .eq 32, 3) := by decide +kernel
theorem dX10_isLine_7 : decode cX10_isLine 7 = .ok (.iload_n 1, 1) := by decide +kernel
theorem dX10_isLine_8 : decode cX10_isLine 8 = .ok (.ifCond .lt 28, 3) := by decide +kernel
theorem dX10_isLine_11 : decode cX10_isLine 11 = .ok (.iload_n 1, 1) := by decide +kernel
theorem dX10_isLine_12 : decode cX10_isLine 12 = .ok (.bipush 16, 2) := by decide +kernel
theorem dX10_isLine_14 : decode cX10_isLine 14 = .ok (.if_icmp .ge 22, 3) := by decide +kernel
theorem dX10_isLine_17 : decode cX10_isLine 17 = .ok (.aload_n 0, 1) := by decide +kernel
theorem dX10_isLine_18 : decode cX10_isLine 18 = .ok (.getfield 75, 3) := by decide +kernel
theorem dX10_isLine_21 : decode cX10_isLine 21 = .ok (.getfield 200, 3) := by decide +kernel
theorem dX10_isLine_24 : decode cX10_isLine 24 = .ok (.iload_n 1, 1) := by decide +kernel
theorem dX10_isLine_25 : decode cX10_isLine 25 = .ok (.invokestatic 135, 3) := by decide +kernel
theorem dX10_isLine_28 : decode cX10_isLine 28 = .ok (.iconst 1, 1) := by decide +kernel
theorem dX10_isLine_29 : decode cX10_isLine 29 = .ok (.if_icmp .ne 7, 3) := by decide +kernel
theorem dX10_isLine_32 : decode cX10_isLine 32 = .ok (.iconst 1, 1) := by decide +kernel
theorem dX10_isLine_33 : decode cX10_isLine 33 = .ok (.goto 4, 3) := by decide +kernel
theorem dX10_isLine_36 : decode cX10_isLine 36 = .ok (.iconst 0, 1) := by decide +kernel
theorem dX10_isLine_37 : decode cX10_isLine 37 = .ok (.ireturn, 1) := by decide +kernel
theorem dX10_isAnswer_0 : decode cX10_isAnswer 0 = .ok (.aload_n 0, 1) := by decide +kernel
theorem dX10_isAnswer_1 : decode cX10_isAnswer 1 = .ok (.getfield 96, 3) := by decide +kernel
theorem dX10_isAnswer_4 : decode cX10_isAnswer 4 = .ok (.ifCond .eq 22, 3) := by decide +kernel
theorem dX10_isAnswer_7 : decode cX10_isAnswer 7 = .ok (.iload_n 1, 1) := by decide +kernel
theorem dX10_isAnswer_8 : decode cX10_isAnswer 8 = .ok (.ifCond .lt 18, 3) := by decide +kernel
theorem dX10_isAnswer_11 : decode cX10_isAnswer 11 = .ok (.iload_n 1, 1) := by decide +kernel
theorem dX10_isAnswer_12 : decode cX10_isAnswer 12 = .ok (.aload_n 0, 1) := by decide +kernel
theorem dX10_isAnswer_13 : decode cX10_isAnswer 13 = .ok (.getfield 75, 3) := by decide +kernel
theorem dX10_isAnswer_16 : decode cX10_isAnswer 16 = .ok (.getfield 108, 3) := by decide +kernel
theorem dX10_isAnswer_19 : decode cX10_isAnswer 19 = .ok (.if_icmp .ge 7, 3) := by decide +kernel
theorem dX10_isAnswer_22 : decode cX10_isAnswer 22 = .ok (.iconst 1, 1) := by decide +kernel
theorem dX10_isAnswer_23 : decode cX10_isAnswer 23 = .ok (.goto 4, 3) := by decide +kernel
theorem dX10_isAnswer_26 : decode cX10_isAnswer 26 = .ok (.iconst 0, 1) := by decide +kernel
theorem dX10_isAnswer_27 : decode cX10_isAnswer 27 = .ok (.ireturn, 1) := by decide +kernel
theorem dX10_isOpenHere_0 : decode cX10_isOpenHere 0 = .ok (.aload_n 0, 1) := by decide +kernel
theorem dX10_isOpenHere_1 : decode cX10_isOpenHere 1 = .ok (.getfield 75, 3) := by decide +kernel
theorem dX10_isOpenHere_4 : decode cX10_isOpenHere 4 = .ok (.iload_n 1, 1) := by decide +kernel
theorem dX10_isOpenHere_5 : decode cX10_isOpenHere 5 = .ok (.aload_n 0, 1) := by decide +kernel
theorem dX10_isOpenHere_6 : decode cX10_isOpenHere 6 = .ok (.getfield 19, 3) := by decide +kernel
theorem dX10_isOpenHere_9 : decode cX10_isOpenHere 9 = .ok (.aload_n 0, 1) := by decide +kernel
theorem dX10_isOpenHere_10 : decode cX10_isOpenHere 10 = .ok (.getfield 75, 3) := by decide +kernel
theorem dX10_isOpenHere_13 : decode cX10_isOpenHere 13 = .ok (.invokevirtual 128, 3) := by decide +kernel
theorem dX10_isOpenHere_16 : decode cX10_isOpenHere 16 = .ok (.aload_n 0, 1) := by decide +kernel
theorem dX10_isOpenHere_17 : decode cX10_isOpenHere 17 = .ok (.getfield 19, 3) := by decide +kernel
theorem dX10_isOpenHere_20 : decode cX10_isOpenHere 20 = .ok (.aload_n 0, 1) := by decide +kernel
theorem dX10_isOpenHere_21 : decode cX10_isOpenHere 21 = .ok (.getfield 75, 3) := by decide +kernel
theorem dX10_isOpenHere_24 : decode cX10_isOpenHere 24 = .ok (.invokevirtual 190, 3) := by decide +kernel
theorem dX10_isOpenHere_27 : decode cX10_isOpenHere 27 = .ok (.invokevirtual 320, 3) := by decide +kernel
theorem dX10_isOpenHere_30 : decode cX10_isOpenHere 30 = .ok (.ireturn, 1) := by decide +kernel
theorem dX10_openHere_0 : decode cX10_openHere 0 = .ok (.iconst 0, 1) := by decide +kernel
theorem dX10_openHere_1 : decode cX10_openHere 1 = .ok (.istore_n 1, 1) := by decide +kernel
theorem dX10_openHere_2 : decode cX10_openHere 2 = .ok (.iconst 0, 1) := by decide +kernel
theorem dX10_openHere_3 : decode cX10_openHere 3 = .ok (.istore_n 2, 1) := by decide +kernel
theorem dX10_openHere_4 : decode cX10_openHere 4 = .ok (.iload_n 2, 1) := by decide +kernel
theorem dX10_openHere_5 : decode cX10_openHere 5 = .ok (.aload_n 0, 1) := by decide +kernel
theorem dX10_openHere_6 : decode cX10_openHere 6 = .ok (.getfield 75, 3) := by decide +kernel
theorem dX10_openHere_9 : decode cX10_openHere 9 = .ok (.getfield 108, 3) := by decide +kernel
theorem dX10_openHere_12 : decode cX10_openHere 12 = .ok (.if_icmp .ge 20, 3) := by decide +kernel
theorem dX10_openHere_15 : decode cX10_openHere 15 = .ok (.aload_n 0, 1) := by decide +kernel
theorem dX10_openHere_16 : decode cX10_openHere 16 = .ok (.iload_n 2, 1) := by decide +kernel
theorem dX10_openHere_17 : decode cX10_openHere 17 = .ok (.invokevirtual 121, 3) := by decide +kernel
theorem dX10_openHere_20 : decode cX10_openHere 20 = .ok (.ifCond .eq 6, 3) := by decide +kernel
theorem dX10_openHere_23 : decode cX10_openHere 23 = .ok (.iinc 1 1, 3) := by decide +kernel
theorem dX10_openHere_26 : decode cX10_openHere 26 = .ok (.iinc 2 1, 3) := by decide +kernel
theorem dX10_openHere_29 : decode cX10_openHere 29 = .ok (.goto (-25), 3) := by decide +kernel
theorem dX10_openHere_32 : decode cX10_openHere 32 = .ok (.iload_n 1, 1) := by decide +kernel
theorem dX10_openHere_33 : decode cX10_openHere 33 = .ok (.ireturn, 1) := by decide +kernel
theorem dX10_alternativeSet_0 : decode cX10_alternativeSet 0 = .ok (.iload_n 2, 1) := by decide +kernel
theorem dX10_alternativeSet_1 : decode cX10_alternativeSet 1 = .ok (.bipush 10, 2) := by decide +kernel
theorem dX10_alternativeSet_3 : decode cX10_alternativeSet 3 = .ok (.if_icmp .lt 21, 3) := by decide +kernel
theorem dX10_alternativeSet_6 : decode cX10_alternativeSet 6 = .ok (.iload_n 2, 1) := by decide +kernel
theorem dX10_alternativeSet_7 : decode cX10_alternativeSet 7 = .ok (.bipush 10, 2) := by decide +kernel
theorem dX10_alternativeSet_9 : decode cX10_alternativeSet 9 = .ok (.iconst 2, 1) := by decide +kernel
theorem dX10_alternativeSet_10 : decode cX10_alternativeSet 10 = .ok (.aload_n 0, 1) := by decide +kernel
theorem dX10_alternativeSet_11 : decode cX10_alternativeSet 11 = .ok (.getfield 75, 3) := by decide +kernel
theorem dX10_alternativeSet_14 : decode cX10_alternativeSet 14 = .ok (.getfield 175, 3) := by decide +kernel
theorem dX10_alternativeSet_17 : decode cX10_alternativeSet 17 = .ok (.iload_n 1, 1) := by decide +kernel
theorem dX10_alternativeSet_18 : decode cX10_alternativeSet 18 = .ok (.iaload, 1) := by decide +kernel
theorem dX10_alternativeSet_19 : decode cX10_alternativeSet 19 = .ok (.imul, 1) := by decide +kernel
theorem dX10_alternativeSet_20 : decode cX10_alternativeSet 20 = .ok (.iadd, 1) := by decide +kernel
theorem dX10_alternativeSet_21 : decode cX10_alternativeSet 21 = .ok (.if_icmp .lt 6, 3) := by decide +kernel
theorem dX10_alternativeSet_24 : decode cX10_alternativeSet 24 = .ok (.ldc 82, 2) := by decide +kernel
theorem dX10_alternativeSet_26 : decode cX10_alternativeSet 26 = .ok (.ireturn, 1) := by decide +kernel
theorem dX10_alternativeSet_27 : decode cX10_alternativeSet 27 = .ok (.iload_n 1, 1) := by decide +kernel
theorem dX10_alternativeSet_28 : decode cX10_alternativeSet 28 = .ok (.iconst 3, 1) := by decide +kernel
theorem dX10_alternativeSet_29 : decode cX10_alternativeSet 29 = .ok (.imul, 1) := by decide +kernel
theorem dX10_alternativeSet_30 : decode cX10_alternativeSet 30 = .ok (.iload_n 2, 1) := by decide +kernel
theorem dX10_alternativeSet_31 : decode cX10_alternativeSet 31 = .ok (.bipush 10, 2) := by decide +kernel
theorem dX10_alternativeSet_33 : decode cX10_alternativeSet 33 = .ok (.isub, 1) := by decide +kernel
theorem dX10_alternativeSet_34 : decode cX10_alternativeSet 34 = .ok (.iconst 2, 1) := by decide +kernel
theorem dX10_alternativeSet_35 : decode cX10_alternativeSet 35 = .ok (.idiv, 1) := by decide +kernel
theorem dX10_alternativeSet_36 : decode cX10_alternativeSet 36 = .ok (.iadd, 1) := by decide +kernel
theorem dX10_alternativeSet_37 : decode cX10_alternativeSet 37 = .ok (.istore_n 3, 1) := by decide +kernel
theorem dX10_alternativeSet_38 : decode cX10_alternativeSet 38 = .ok (.iload_n 2, 1) := by decide +kernel
theorem dX10_alternativeSet_39 : decode cX10_alternativeSet 39 = .ok (.bipush 10, 2) := by decide +kernel
theorem dX10_alternativeSet_41 : decode cX10_alternativeSet 41 = .ok (.isub, 1) := by decide +kernel
theorem dX10_alternativeSet_42 : decode cX10_alternativeSet 42 = .ok (.iconst 2, 1) := by decide +kernel
theorem dX10_alternativeSet_43 : decode cX10_alternativeSet 43 = .ok (.irem, 1) := by decide +kernel
theorem dX10_alternativeSet_44 : decode cX10_alternativeSet 44 = .ok (.ifCond .ne 15, 3) := by decide +kernel
theorem dX10_alternativeSet_47 : decode cX10_alternativeSet 47 = .ok (.aload_n 0, 1) := by decide +kernel
theorem dX10_alternativeSet_48 : decode cX10_alternativeSet 48 = .ok (.getfield 75, 3) := by decide +kernel
theorem dX10_alternativeSet_51 : decode cX10_alternativeSet 51 = .ok (.getfield 324, 3) := by decide +kernel
theorem dX10_alternativeSet_54 : decode cX10_alternativeSet 54 = .ok (.iload_n 3, 1) := by decide +kernel
theorem dX10_alternativeSet_55 : decode cX10_alternativeSet 55 = .ok (.iaload, 1) := by decide +kernel
theorem dX10_alternativeSet_56 : decode cX10_alternativeSet 56 = .ok (.goto 12, 3) := by decide +kernel
theorem dX10_alternativeSet_59 : decode cX10_alternativeSet 59 = .ok (.aload_n 0, 1) := by decide +kernel
theorem dX10_alternativeSet_60 : decode cX10_alternativeSet 60 = .ok (.getfield 75, 3) := by decide +kernel
theorem dX10_alternativeSet_63 : decode cX10_alternativeSet 63 = .ok (.getfield 327, 3) := by decide +kernel
theorem dX10_alternativeSet_66 : decode cX10_alternativeSet 66 = .ok (.iload_n 3, 1) := by decide +kernel
theorem dX10_alternativeSet_67 : decode cX10_alternativeSet 67 = .ok (.iaload, 1) := by decide +kernel
theorem dX10_alternativeSet_68 : decode cX10_alternativeSet 68 = .ok (.ireturn, 1) := by decide +kernel
theorem dX10_refreshGraph_0 : decode cX10_refreshGraph 0 = .ok (.aload_n 0, 1) := by decide +kernel
theorem dX10_refreshGraph_1 : decode cX10_refreshGraph 1 = .ok (.getfield 105, 3) := by decide +kernel
theorem dX10_refreshGraph_4 : decode cX10_refreshGraph 4 = .ok (.ifCond .ne 41, 3) := by decide +kernel
theorem dX10_refreshGraph_7 : decode cX10_refreshGraph 7 = .ok (.aload_n 0, 1) := by decide +kernel
theorem dX10_refreshGraph_8 : decode cX10_refreshGraph 8 = .ok (.getfield 33, 3) := by decide +kernel
theorem dX10_refreshGraph_11 : decode cX10_refreshGraph 11 = .ok (.aload_n 0, 1) := by decide +kernel
theorem dX10_refreshGraph_12 : decode cX10_refreshGraph 12 = .ok (.getfield 75, 3) := by decide +kernel
theorem dX10_refreshGraph_15 : decode cX10_refreshGraph 15 = .ok (.aload_n 0, 1) := by decide +kernel
theorem dX10_refreshGraph_16 : decode cX10_refreshGraph 16 = .ok (.getfield 19, 3) := by decide +kernel
theorem dX10_refreshGraph_19 : decode cX10_refreshGraph 19 = .ok (.getfield 246, 3) := by decide +kernel
theorem dX10_refreshGraph_22 : decode cX10_refreshGraph 22 = .ok (.invokevirtual 330, 3) := by decide +kernel
theorem dX10_refreshGraph_25 : decode cX10_refreshGraph 25 = .ok (.aload_n 0, 1) := by decide +kernel
theorem dX10_refreshGraph_26 : decode cX10_refreshGraph 26 = .ok (.iconst 1, 1) := by decide +kernel
theorem dX10_refreshGraph_27 : decode cX10_refreshGraph 27 = .ok (.putfield 105, 3) := by decide +kernel
theorem dX10_refreshGraph_30 : decode cX10_refreshGraph 30 = .ok (.aload_n 0, 1) := by decide +kernel
theorem dX10_refreshGraph_31 : decode cX10_refreshGraph 31 = .ok (.iconst 0, 1) := by decide +kernel
theorem dX10_refreshGraph_32 : decode cX10_refreshGraph 32 = .ok (.putfield 334, 3) := by decide +kernel
theorem dX10_refreshGraph_35 : decode cX10_refreshGraph 35 = .ok (.aload_n 0, 1) := by decide +kernel
theorem dX10_refreshGraph_36 : decode cX10_refreshGraph 36 = .ok (.iconst 0, 1) := by decide +kernel
theorem dX10_refreshGraph_37 : decode cX10_refreshGraph 37 = .ok (.putfield 337, 3) := by decide +kernel
theorem dX10_refreshGraph_40 : decode cX10_refreshGraph 40 = .ok (.aload_n 0, 1) := by decide +kernel
theorem dX10_refreshGraph_41 : decode cX10_refreshGraph 41 = .ok (.iconst 0, 1) := by decide +kernel
theorem dX10_refreshGraph_42 : decode cX10_refreshGraph 42 = .ok (.putfield 157, 3) := by decide +kernel
theorem dX10_refreshGraph_45 : decode cX10_refreshGraph 45 = .ok (.return_, 1) := by decide +kernel
theorem dX10_refreshHopes_0 : decode cX10_refreshHopes 0 = .ok (.aload_n 0, 1) := by decide +kernel
theorem dX10_refreshHopes_1 : decode cX10_refreshHopes 1 = .ok (.getfield 334, 3) := by decide +kernel
theorem dX10_refreshHopes_4 : decode cX10_refreshHopes 4 = .ok (.ifCond .ne 26, 3) := by decide +kernel
theorem dX10_refreshHopes_7 : decode cX10_refreshHopes 7 = .ok (.aload_n 0, 1) := by decide +kernel
theorem dX10_refreshHopes_8 : decode cX10_refreshHopes 8 = .ok (.getfield 47, 3) := by decide +kernel
theorem dX10_refreshHopes_11 : decode cX10_refreshHopes 11 = .ok (.aload_n 0, 1) := by decide +kernel
theorem dX10_refreshHopes_12 : decode cX10_refreshHopes 12 = .ok (.getfield 33, 3) := by decide +kernel
theorem dX10_refreshHopes_15 : decode cX10_refreshHopes 15 = .ok (.aload_n 0, 1) := by decide +kernel
theorem dX10_refreshHopes_16 : decode cX10_refreshHopes 16 = .ok (.getfield 75, 3) := by decide +kernel
theorem dX10_refreshHopes_19 : decode cX10_refreshHopes 19 = .ok (.getfield 203, 3) := by decide +kernel
theorem dX10_refreshHopes_22 : decode cX10_refreshHopes 22 = .ok (.invokevirtual 340, 3) := by decide +kernel
theorem dX10_refreshHopes_25 : decode cX10_refreshHopes 25 = .ok (.aload_n 0, 1) := by decide +kernel
theorem dX10_refreshHopes_26 : decode cX10_refreshHopes 26 = .ok (.iconst 1, 1) := by decide +kernel
theorem dX10_refreshHopes_27 : decode cX10_refreshHopes 27 = .ok (.putfield 334, 3) := by decide +kernel
theorem dX10_refreshHopes_30 : decode cX10_refreshHopes 30 = .ok (.return_, 1) := by decide +kernel
theorem dX10_refreshLoops_0 : decode cX10_refreshLoops 0 = .ok (.aload_n 0, 1) := by decide +kernel
theorem dX10_refreshLoops_1 : decode cX10_refreshLoops 1 = .ok (.getfield 337, 3) := by decide +kernel
theorem dX10_refreshLoops_4 : decode cX10_refreshLoops 4 = .ok (.ifCond .ne 19, 3) := by decide +kernel
theorem dX10_refreshLoops_7 : decode cX10_refreshLoops 7 = .ok (.aload_n 0, 1) := by decide +kernel
theorem dX10_refreshLoops_8 : decode cX10_refreshLoops 8 = .ok (.getfield 54, 3) := by decide +kernel
theorem dX10_refreshLoops_11 : decode cX10_refreshLoops 11 = .ok (.aload_n 0, 1) := by decide +kernel
theorem dX10_refreshLoops_12 : decode cX10_refreshLoops 12 = .ok (.getfield 33, 3) := by decide +kernel
theorem dX10_refreshLoops_15 : decode cX10_refreshLoops 15 = .ok (.invokevirtual 344, 3) := by decide +kernel
theorem dX10_refreshLoops_18 : decode cX10_refreshLoops 18 = .ok (.aload_n 0, 1) := by decide +kernel
theorem dX10_refreshLoops_19 : decode cX10_refreshLoops 19 = .ok (.iconst 1, 1) := by decide +kernel
theorem dX10_refreshLoops_20 : decode cX10_refreshLoops 20 = .ok (.putfield 337, 3) := by decide +kernel
theorem dX10_refreshLoops_23 : decode cX10_refreshLoops 23 = .ok (.return_, 1) := by decide +kernel
theorem dX10_refreshPrices_0 : decode cX10_refreshPrices 0 = .ok (.aload_n 0, 1) := by decide +kernel
theorem dX10_refreshPrices_1 : decode cX10_refreshPrices 1 = .ok (.getfield 157, 3) := by decide +kernel
theorem dX10_refreshPrices_4 : decode cX10_refreshPrices 4 = .ok (.ifCond .ne 26, 3) := by decide +kernel
theorem dX10_refreshPrices_7 : decode cX10_refreshPrices 7 = .ok (.aload_n 0, 1) := by decide +kernel
theorem dX10_refreshPrices_8 : decode cX10_refreshPrices 8 = .ok (.getfield 61, 3) := by decide +kernel
theorem dX10_refreshPrices_11 : decode cX10_refreshPrices 11 = .ok (.aload_n 0, 1) := by decide +kernel
theorem dX10_refreshPrices_12 : decode cX10_refreshPrices 12 = .ok (.getfield 33, 3) := by decide +kernel
theorem dX10_refreshPrices_15 : decode cX10_refreshPrices 15 = .ok (.aload_n 0, 1) := by decide +kernel
theorem dX10_refreshPrices_16 : decode cX10_refreshPrices 16 = .ok (.getfield 75, 3) := by decide +kernel
theorem dX10_refreshPrices_19 : decode cX10_refreshPrices 19 = .ok (.getfield 153, 3) := by decide +kernel
theorem dX10_refreshPrices_22 : decode cX10_refreshPrices 22 = .ok (.invokevirtual 347, 3) := by decide +kernel
theorem dX10_refreshPrices_25 : decode cX10_refreshPrices 25 = .ok (.aload_n 0, 1) := by decide +kernel
theorem dX10_refreshPrices_26 : decode cX10_refreshPrices 26 = .ok (.iconst 1, 1) := by decide +kernel
theorem dX10_refreshPrices_27 : decode cX10_refreshPrices 27 = .ok (.putfield 157, 3) := by decide +kernel
theorem dX10_refreshPrices_30 : decode cX10_refreshPrices 30 = .ok (.return_, 1) := by decide +kernel
theorem dX10_isStuck_0 : decode cX10_isStuck 0 = .ok (.aload_n 0, 1) := by decide +kernel
theorem dX10_isStuck_1 : decode cX10_isStuck 1 = .ok (.getfield 33, 3) := by decide +kernel
theorem dX10_isStuck_4 : decode cX10_isStuck 4 = .ok (.iload_n 1, 1) := by decide +kernel
theorem dX10_isStuck_5 : decode cX10_isStuck 5 = .ok (.invokevirtual 350, 3) := by decide +kernel
theorem dX10_isStuck_8 : decode cX10_isStuck 8 = .ok (.ifCond .ne 28, 3) := by decide +kernel
theorem dX10_isStuck_11 : decode cX10_isStuck 11 = .ok (.aload_n 0, 1) := by decide +kernel
theorem dX10_isStuck_12 : decode cX10_isStuck 12 = .ok (.getfield 75, 3) := by decide +kernel
theorem dX10_isStuck_15 : decode cX10_isStuck 15 = .ok (.getfield 203, 3) := by decide +kernel
theorem dX10_isStuck_18 : decode cX10_isStuck 18 = .ok (.aload_n 0, 1) := by decide +kernel
theorem dX10_isStuck_19 : decode cX10_isStuck 19 = .ok (.getfield 33, 3) := by decide +kernel
theorem dX10_isStuck_22 : decode cX10_isStuck 22 = .ok (.iload_n 1, 1) := by decide +kernel
theorem dX10_isStuck_23 : decode cX10_isStuck 23 = .ok (.invokevirtual 265, 3) := by decide +kernel
theorem dX10_isStuck_26 : decode cX10_isStuck 26 = .ok (.invokestatic 135, 3) := by decide +kernel
theorem dX10_isStuck_29 : decode cX10_isStuck 29 = .ok (.ifCond .ne 7, 3) := by decide +kernel
theorem dX10_isStuck_32 : decode cX10_isStuck 32 = .ok (.iconst 1, 1) := by decide +kernel
theorem dX10_isStuck_33 : decode cX10_isStuck 33 = .ok (.goto 4, 3) := by decide +kernel
theorem dX10_isStuck_36 : decode cX10_isStuck 36 = .ok (.iconst 0, 1) := by decide +kernel
theorem dX10_isStuck_37 : decode cX10_isStuck 37 = .ok (.ireturn, 1) := by decide +kernel
theorem dX10_stuckStates_0 : decode cX10_stuckStates 0 = .ok (.iconst 0, 1) := by decide +kernel
theorem dX10_stuckStates_1 : decode cX10_stuckStates 1 = .ok (.istore_n 2, 1) := by decide +kernel
theorem dX10_stuckStates_2 : decode cX10_stuckStates 2 = .ok (.iconst 0, 1) := by decide +kernel
theorem dX10_stuckStates_3 : decode cX10_stuckStates 3 = .ok (.istore_n 3, 1) := by decide +kernel
theorem dX10_stuckStates_4 : decode cX10_stuckStates 4 = .ok (.iload_n 3, 1) := by decide +kernel
theorem dX10_stuckStates_5 : decode cX10_stuckStates 5 = .ok (.aload_n 0, 1) := by decide +kernel
theorem dX10_stuckStates_6 : decode cX10_stuckStates 6 = .ok (.getfield 33, 3) := by decide +kernel
theorem dX10_stuckStates_9 : decode cX10_stuckStates 9 = .ok (.getfield 262, 3) := by decide +kernel
theorem dX10_stuckStates_12 : decode cX10_stuckStates 12 = .ok (.if_icmp .ge 32, 3) := by decide +kernel
theorem dX10_stuckStates_15 : decode cX10_stuckStates 15 = .ok (.aload_n 0, 1) := by decide +kernel
theorem dX10_stuckStates_16 : decode cX10_stuckStates 16 = .ok (.getfield 33, 3) := by decide +kernel
theorem dX10_stuckStates_19 : decode cX10_stuckStates 19 = .ok (.iload_n 3, 1) := by decide +kernel
theorem dX10_stuckStates_20 : decode cX10_stuckStates 20 = .ok (.invokevirtual 265, 3) := by decide +kernel
theorem dX10_stuckStates_23 : decode cX10_stuckStates 23 = .ok (.iload_n 1, 1) := by decide +kernel
theorem dX10_stuckStates_24 : decode cX10_stuckStates 24 = .ok (.if_icmp .ne 14, 3) := by decide +kernel
theorem dX10_stuckStates_27 : decode cX10_stuckStates 27 = .ok (.aload_n 0, 1) := by decide +kernel
theorem dX10_stuckStates_28 : decode cX10_stuckStates 28 = .ok (.iload_n 3, 1) := by decide +kernel
theorem dX10_stuckStates_29 : decode cX10_stuckStates 29 = .ok (.invokevirtual 353, 3) := by decide +kernel
theorem dX10_stuckStates_32 : decode cX10_stuckStates 32 = .ok (.ifCond .eq 6, 3) := by decide +kernel
theorem dX10_stuckStates_35 : decode cX10_stuckStates 35 = .ok (.iinc 2 1, 3) := by decide +kernel
theorem dX10_stuckStates_38 : decode cX10_stuckStates 38 = .ok (.iinc 3 1, 3) := by decide +kernel
theorem dX10_stuckStates_41 : decode cX10_stuckStates 41 = .ok (.goto (-37), 3) := by decide +kernel
theorem dX10_stuckStates_44 : decode cX10_stuckStates 44 = .ok (.iload_n 2, 1) := by decide +kernel
theorem dX10_stuckStates_45 : decode cX10_stuckStates 45 = .ok (.ireturn, 1) := by decide +kernel
theorem dX10_stuckLines_0 : decode cX10_stuckLines 0 = .ok (.iconst 0, 1) := by decide +kernel
theorem dX10_stuckLines_1 : decode cX10_stuckLines 1 = .ok (.istore_n 1, 1) := by decide +kernel
theorem dX10_stuckLines_2 : decode cX10_stuckLines 2 = .ok (.iconst 0, 1) := by decide +kernel
theorem dX10_stuckLines_3 : decode cX10_stuckLines 3 = .ok (.istore_n 2, 1) := by decide +kernel
theorem dX10_stuckLines_4 : decode cX10_stuckLines 4 = .ok (.iload_n 2, 1) := by decide +kernel
theorem dX10_stuckLines_5 : decode cX10_stuckLines 5 = .ok (.aload_n 0, 1) := by decide +kernel
theorem dX10_stuckLines_6 : decode cX10_stuckLines 6 = .ok (.getfield 33, 3) := by decide +kernel
theorem dX10_stuckLines_9 : decode cX10_stuckLines 9 = .ok (.getfield 262, 3) := by decide +kernel
theorem dX10_stuckLines_12 : decode cX10_stuckLines 12 = .ok (.if_icmp .ge 30, 3) := by decide +kernel
theorem dX10_stuckLines_15 : decode cX10_stuckLines 15 = .ok (.aload_n 0, 1) := by decide +kernel
theorem dX10_stuckLines_16 : decode cX10_stuckLines 16 = .ok (.iload_n 2, 1) := by decide +kernel
theorem dX10_stuckLines_17 : decode cX10_stuckLines 17 = .ok (.invokevirtual 353, 3) := by decide +kernel
theorem dX10_stuckLines_20 : decode cX10_stuckLines 20 = .ok (.ifCond .eq 16, 3) := by decide +kernel
theorem dX10_stuckLines_23 : decode cX10_stuckLines 23 = .ok (.iload_n 1, 1) := by decide +kernel
theorem dX10_stuckLines_24 : decode cX10_stuckLines 24 = .ok (.iconst 1, 1) := by decide +kernel
theorem dX10_stuckLines_25 : decode cX10_stuckLines 25 = .ok (.aload_n 0, 1) := by decide +kernel
theorem dX10_stuckLines_26 : decode cX10_stuckLines 26 = .ok (.getfield 33, 3) := by decide +kernel
theorem dX10_stuckLines_29 : decode cX10_stuckLines 29 = .ok (.iload_n 2, 1) := by decide +kernel
theorem dX10_stuckLines_30 : decode cX10_stuckLines 30 = .ok (.invokevirtual 265, 3) := by decide +kernel
theorem dX10_stuckLines_33 : decode cX10_stuckLines 33 = .ok (.ishl, 1) := by decide +kernel
theorem dX10_stuckLines_34 : decode cX10_stuckLines 34 = .ok (.ior, 1) := by decide +kernel
theorem dX10_stuckLines_35 : decode cX10_stuckLines 35 = .ok (.istore_n 1, 1) := by decide +kernel
theorem dX10_stuckLines_36 : decode cX10_stuckLines 36 = .ok (.iinc 2 1, 3) := by decide +kernel
theorem dX10_stuckLines_39 : decode cX10_stuckLines 39 = .ok (.goto (-35), 3) := by decide +kernel
theorem dX10_stuckLines_42 : decode cX10_stuckLines 42 = .ok (.iload_n 1, 1) := by decide +kernel
theorem dX10_stuckLines_43 : decode cX10_stuckLines 43 = .ok (.ireturn, 1) := by decide +kernel
theorem dX10_lostStates_0 : decode cX10_lostStates 0 = .ok (.aload_n 0, 1) := by decide +kernel
theorem dX10_lostStates_1 : decode cX10_lostStates 1 = .ok (.invokevirtual 356, 3) := by decide +kernel
theorem dX10_lostStates_4 : decode cX10_lostStates 4 = .ok (.iconst 0, 1) := by decide +kernel
theorem dX10_lostStates_5 : decode cX10_lostStates 5 = .ok (.istore_n 2, 1) := by decide +kernel
theorem dX10_lostStates_6 : decode cX10_lostStates 6 = .ok (.iconst 0, 1) := by decide +kernel
theorem dX10_lostStates_7 : decode cX10_lostStates 7 = .ok (.istore_n 3, 1) := by decide +kernel
theorem dX10_lostStates_8 : decode cX10_lostStates 8 = .ok (.iload_n 3, 1) := by decide +kernel
theorem dX10_lostStates_9 : decode cX10_lostStates 9 = .ok (.aload_n 0, 1) := by decide +kernel
theorem dX10_lostStates_10 : decode cX10_lostStates 10 = .ok (.getfield 33, 3) := by decide +kernel
theorem dX10_lostStates_13 : decode cX10_lostStates 13 = .ok (.getfield 262, 3) := by decide +kernel
theorem dX10_lostStates_16 : decode cX10_lostStates 16 = .ok (.if_icmp .ge 36, 3) := by decide +kernel
theorem dX10_lostStates_19 : decode cX10_lostStates 19 = .ok (.aload_n 0, 1) := by decide +kernel
theorem dX10_lostStates_20 : decode cX10_lostStates 20 = .ok (.getfield 33, 3) := by decide +kernel
theorem dX10_lostStates_23 : decode cX10_lostStates 23 = .ok (.iload_n 3, 1) := by decide +kernel
theorem dX10_lostStates_24 : decode cX10_lostStates 24 = .ok (.invokevirtual 265, 3) := by decide +kernel
theorem dX10_lostStates_27 : decode cX10_lostStates 27 = .ok (.iload_n 1, 1) := by decide +kernel
theorem dX10_lostStates_28 : decode cX10_lostStates 28 = .ok (.if_icmp .ne 18, 3) := by decide +kernel
theorem dX10_lostStates_31 : decode cX10_lostStates 31 = .ok (.aload_n 0, 1) := by decide +kernel
theorem dX10_lostStates_32 : decode cX10_lostStates 32 = .ok (.getfield 47, 3) := by decide +kernel
theorem dX10_lostStates_35 : decode cX10_lostStates 35 = .ok (.getfield 359, 3) := by decide +kernel
theorem dX10_lostStates_38 : decode cX10_lostStates 38 = .ok (.iload_n 3, 1) := by decide +kernel
theorem dX10_lostStates_39 : decode cX10_lostStates 39 = .ok (.baload, 1) := by decide +kernel
theorem dX10_lostStates_40 : decode cX10_lostStates 40 = .ok (.ifCond .ne 6, 3) := by decide +kernel
theorem dX10_lostStates_43 : decode cX10_lostStates 43 = .ok (.iinc 2 1, 3) := by decide +kernel
theorem dX10_lostStates_46 : decode cX10_lostStates 46 = .ok (.iinc 3 1, 3) := by decide +kernel
theorem dX10_lostStates_49 : decode cX10_lostStates 49 = .ok (.goto (-41), 3) := by decide +kernel
theorem dX10_lostStates_52 : decode cX10_lostStates 52 = .ok (.iload_n 2, 1) := by decide +kernel
theorem dX10_lostStates_53 : decode cX10_lostStates 53 = .ok (.ireturn, 1) := by decide +kernel
theorem dX10_lostLines_0 : decode cX10_lostLines 0 = .ok (.aload_n 0, 1) := by decide +kernel
theorem dX10_lostLines_1 : decode cX10_lostLines 1 = .ok (.invokevirtual 356, 3) := by decide +kernel
theorem dX10_lostLines_4 : decode cX10_lostLines 4 = .ok (.iconst 0, 1) := by decide +kernel
theorem dX10_lostLines_5 : decode cX10_lostLines 5 = .ok (.istore_n 1, 1) := by decide +kernel
theorem dX10_lostLines_6 : decode cX10_lostLines 6 = .ok (.iconst 0, 1) := by decide +kernel
theorem dX10_lostLines_7 : decode cX10_lostLines 7 = .ok (.istore_n 2, 1) := by decide +kernel
theorem dX10_lostLines_8 : decode cX10_lostLines 8 = .ok (.iload_n 2, 1) := by decide +kernel
theorem dX10_lostLines_9 : decode cX10_lostLines 9 = .ok (.aload_n 0, 1) := by decide +kernel
theorem dX10_lostLines_10 : decode cX10_lostLines 10 = .ok (.getfield 33, 3) := by decide +kernel
theorem dX10_lostLines_13 : decode cX10_lostLines 13 = .ok (.getfield 262, 3) := by decide +kernel
theorem dX10_lostLines_16 : decode cX10_lostLines 16 = .ok (.if_icmp .ge 34, 3) := by decide +kernel
theorem dX10_lostLines_19 : decode cX10_lostLines 19 = .ok (.aload_n 0, 1) := by decide +kernel
theorem dX10_lostLines_20 : decode cX10_lostLines 20 = .ok (.getfield 47, 3) := by decide +kernel
theorem dX10_lostLines_23 : decode cX10_lostLines 23 = .ok (.getfield 359, 3) := by decide +kernel
theorem dX10_lostLines_26 : decode cX10_lostLines 26 = .ok (.iload_n 2, 1) := by decide +kernel
theorem dX10_lostLines_27 : decode cX10_lostLines 27 = .ok (.baload, 1) := by decide +kernel
theorem dX10_lostLines_28 : decode cX10_lostLines 28 = .ok (.ifCond .ne 16, 3) := by decide +kernel
theorem dX10_lostLines_31 : decode cX10_lostLines 31 = .ok (.iload_n 1, 1) := by decide +kernel
theorem dX10_lostLines_32 : decode cX10_lostLines 32 = .ok (.iconst 1, 1) := by decide +kernel
theorem dX10_lostLines_33 : decode cX10_lostLines 33 = .ok (.aload_n 0, 1) := by decide +kernel
theorem dX10_lostLines_34 : decode cX10_lostLines 34 = .ok (.getfield 33, 3) := by decide +kernel
theorem dX10_lostLines_37 : decode cX10_lostLines 37 = .ok (.iload_n 2, 1) := by decide +kernel
theorem dX10_lostLines_38 : decode cX10_lostLines 38 = .ok (.invokevirtual 265, 3) := by decide +kernel
theorem dX10_lostLines_41 : decode cX10_lostLines 41 = .ok (.ishl, 1) := by decide +kernel
theorem dX10_lostLines_42 : decode cX10_lostLines 42 = .ok (.ior, 1) := by decide +kernel
theorem dX10_lostLines_43 : decode cX10_lostLines 43 = .ok (.istore_n 1, 1) := by decide +kernel
theorem dX10_lostLines_44 : decode cX10_lostLines 44 = .ok (.iinc 2 1, 3) := by decide +kernel
theorem dX10_lostLines_47 : decode cX10_lostLines 47 = .ok (.goto (-39), 3) := by decide +kernel
theorem dX10_lostLines_50 : decode cX10_lostLines 50 = .ok (.iload_n 1, 1) := by decide +kernel
theorem dX10_lostLines_51 : decode cX10_lostLines 51 = .ok (.ireturn, 1) := by decide +kernel
theorem dX10_loopingLines_0 : decode cX10_loopingLines 0 = .ok (.aload_n 0, 1) := by decide +kernel
theorem dX10_loopingLines_1 : decode cX10_loopingLines 1 = .ok (.invokevirtual 259, 3) := by decide +kernel
theorem dX10_loopingLines_4 : decode cX10_loopingLines 4 = .ok (.iconst 0, 1) := by decide +kernel
theorem dX10_loopingLines_5 : decode cX10_loopingLines 5 = .ok (.istore_n 1, 1) := by decide +kernel
theorem dX10_loopingLines_6 : decode cX10_loopingLines 6 = .ok (.iconst 0, 1) := by decide +kernel
theorem dX10_loopingLines_7 : decode cX10_loopingLines 7 = .ok (.istore_n 2, 1) := by decide +kernel
theorem dX10_loopingLines_8 : decode cX10_loopingLines 8 = .ok (.iload_n 2, 1) := by decide +kernel
theorem dX10_loopingLines_9 : decode cX10_loopingLines 9 = .ok (.aload_n 0, 1) := by decide +kernel
theorem dX10_loopingLines_10 : decode cX10_loopingLines 10 = .ok (.getfield 33, 3) := by decide +kernel
theorem dX10_loopingLines_13 : decode cX10_loopingLines 13 = .ok (.getfield 262, 3) := by decide +kernel
theorem dX10_loopingLines_16 : decode cX10_loopingLines 16 = .ok (.if_icmp .ge 34, 3) := by decide +kernel
theorem dX10_loopingLines_19 : decode cX10_loopingLines 19 = .ok (.aload_n 0, 1) := by decide +kernel
theorem dX10_loopingLines_20 : decode cX10_loopingLines 20 = .ok (.getfield 54, 3) := by decide +kernel
theorem dX10_loopingLines_23 : decode cX10_loopingLines 23 = .ok (.getfield 268, 3) := by decide +kernel
theorem dX10_loopingLines_26 : decode cX10_loopingLines 26 = .ok (.iload_n 2, 1) := by decide +kernel
theorem dX10_loopingLines_27 : decode cX10_loopingLines 27 = .ok (.baload, 1) := by decide +kernel
theorem dX10_loopingLines_28 : decode cX10_loopingLines 28 = .ok (.ifCond .eq 16, 3) := by decide +kernel
theorem dX10_loopingLines_31 : decode cX10_loopingLines 31 = .ok (.iload_n 1, 1) := by decide +kernel
theorem dX10_loopingLines_32 : decode cX10_loopingLines 32 = .ok (.iconst 1, 1) := by decide +kernel
theorem dX10_loopingLines_33 : decode cX10_loopingLines 33 = .ok (.aload_n 0, 1) := by decide +kernel
theorem dX10_loopingLines_34 : decode cX10_loopingLines 34 = .ok (.getfield 33, 3) := by decide +kernel
theorem dX10_loopingLines_37 : decode cX10_loopingLines 37 = .ok (.iload_n 2, 1) := by decide +kernel
theorem dX10_loopingLines_38 : decode cX10_loopingLines 38 = .ok (.invokevirtual 265, 3) := by decide +kernel
theorem dX10_loopingLines_41 : decode cX10_loopingLines 41 = .ok (.ishl, 1) := by decide +kernel
theorem dX10_loopingLines_42 : decode cX10_loopingLines 42 = .ok (.ior, 1) := by decide +kernel
theorem dX10_loopingLines_43 : decode cX10_loopingLines 43 = .ok (.istore_n 1, 1) := by decide +kernel
theorem dX10_loopingLines_44 : decode cX10_loopingLines 44 = .ok (.iinc 2 1, 3) := by decide +kernel
theorem dX10_loopingLines_47 : decode cX10_loopingLines 47 = .ok (.goto (-39), 3) := by decide +kernel
theorem dX10_loopingLines_50 : decode cX10_loopingLines 50 = .ok (.iload_n 1, 1) := by decide +kernel
theorem dX10_loopingLines_51 : decode cX10_loopingLines 51 = .ok (.ireturn, 1) := by decide +kernel
theorem dX10_statesAtEndings_0 : decode cX10_statesAtEndings 0 = .ok (.iconst 0, 1) := by decide +kernel
theorem dX10_statesAtEndings_1 : decode cX10_statesAtEndings 1 = .ok (.istore_n 1, 1) := by decide +kernel
theorem dX10_statesAtEndings_2 : decode cX10_statesAtEndings 2 = .ok (.iconst 0, 1) := by decide +kernel
theorem dX10_statesAtEndings_3 : decode cX10_statesAtEndings 3 = .ok (.istore_n 2, 1) := by decide +kernel
theorem dX10_statesAtEndings_4 : decode cX10_statesAtEndings 4 = .ok (.iload_n 2, 1) := by decide +kernel
theorem dX10_statesAtEndings_5 : decode cX10_statesAtEndings 5 = .ok (.aload_n 0, 1) := by decide +kernel
theorem dX10_statesAtEndings_6 : decode cX10_statesAtEndings 6 = .ok (.getfield 33, 3) := by decide +kernel
theorem dX10_statesAtEndings_9 : decode cX10_statesAtEndings 9 = .ok (.getfield 262, 3) := by decide +kernel
theorem dX10_statesAtEndings_12 : decode cX10_statesAtEndings 12 = .ok (.if_icmp .ge 30, 3) := by decide +kernel
theorem dX10_statesAtEndings_15 : decode cX10_statesAtEndings 15 = .ok (.iload_n 1, 1) := by decide +kernel
theorem dX10_statesAtEndings_16 : decode cX10_statesAtEndings 16 = .ok (.aload_n 0, 1) := by decide +kernel
theorem dX10_statesAtEndings_17 : decode cX10_statesAtEndings 17 = .ok (.getfield 75, 3) := by decide +kernel
theorem dX10_statesAtEndings_20 : decode cX10_statesAtEndings 20 = .ok (.getfield 203, 3) := by decide +kernel
theorem dX10_statesAtEndings_23 : decode cX10_statesAtEndings 23 = .ok (.aload_n 0, 1) := by decide +kernel
theorem dX10_statesAtEndings_24 : decode cX10_statesAtEndings 24 = .ok (.getfield 33, 3) := by decide +kernel
theorem dX10_statesAtEndings_27 : decode cX10_statesAtEndings 27 = .ok (.iload_n 2, 1) := by decide +kernel
theorem dX10_statesAtEndings_28 : decode cX10_statesAtEndings 28 = .ok (.invokevirtual 265, 3) := by decide +kernel
theorem dX10_statesAtEndings_31 : decode cX10_statesAtEndings 31 = .ok (.invokestatic 135, 3) := by decide +kernel
theorem dX10_statesAtEndings_34 : decode cX10_statesAtEndings 34 = .ok (.iadd, 1) := by decide +kernel
theorem dX10_statesAtEndings_35 : decode cX10_statesAtEndings 35 = .ok (.istore_n 1, 1) := by decide +kernel
theorem dX10_statesAtEndings_36 : decode cX10_statesAtEndings 36 = .ok (.iinc 2 1, 3) := by decide +kernel
theorem dX10_statesAtEndings_39 : decode cX10_statesAtEndings 39 = .ok (.goto (-35), 3) := by decide +kernel
theorem dX10_statesAtEndings_42 : decode cX10_statesAtEndings 42 = .ok (.iload_n 1, 1) := by decide +kernel
theorem dX10_statesAtEndings_43 : decode cX10_statesAtEndings 43 = .ok (.ireturn, 1) := by decide +kernel
theorem dX10_isMarkReached_0 : decode cX10_isMarkReached 0 = .ok (.aload_n 0, 1) := by decide +kernel
theorem dX10_isMarkReached_1 : decode cX10_isMarkReached 1 = .ok (.invokevirtual 212, 3) := by decide +kernel
theorem dX10_isMarkReached_4 : decode cX10_isMarkReached 4 = .ok (.iconst 0, 1) := by decide +kernel
theorem dX10_isMarkReached_5 : decode cX10_isMarkReached 5 = .ok (.istore_n 2, 1) := by decide +kernel
theorem dX10_isMarkReached_6 : decode cX10_isMarkReached 6 = .ok (.iload_n 2, 1) := by decide +kernel
theorem dX10_isMarkReached_7 : decode cX10_isMarkReached 7 = .ok (.aload_n 0, 1) := by decide +kernel
theorem dX10_isMarkReached_8 : decode cX10_isMarkReached 8 = .ok (.getfield 33, 3) := by decide +kernel
theorem dX10_isMarkReached_11 : decode cX10_isMarkReached 11 = .ok (.getfield 262, 3) := by decide +kernel
theorem dX10_isMarkReached_14 : decode cX10_isMarkReached 14 = .ok (.if_icmp .ge 27, 3) := by decide +kernel
theorem dX10_isMarkReached_17 : decode cX10_isMarkReached 17 = .ok (.aload_n 0, 1) := by decide +kernel
theorem dX10_isMarkReached_18 : decode cX10_isMarkReached 18 = .ok (.getfield 33, 3) := by decide +kernel
theorem dX10_isMarkReached_21 : decode cX10_isMarkReached 21 = .ok (.iload_n 2, 1) := by decide +kernel
theorem dX10_isMarkReached_22 : decode cX10_isMarkReached 22 = .ok (.invokevirtual 362, 3) := by decide +kernel
theorem dX10_isMarkReached_25 : decode cX10_isMarkReached 25 = .ok (.iload_n 1, 1) := by decide +kernel
theorem dX10_isMarkReached_26 : decode cX10_isMarkReached 26 = .ok (.invokestatic 135, 3) := by decide +kernel
theorem dX10_isMarkReached_29 : decode cX10_isMarkReached 29 = .ok (.iconst 1, 1) := by decide +kernel
theorem dX10_isMarkReached_30 : decode cX10_isMarkReached 30 = .ok (.if_icmp .ne 5, 3) := by decide +kernel
theorem dX10_isMarkReached_33 : decode cX10_isMarkReached 33 = .ok (.iconst 1, 1) := by decide +kernel
theorem dX10_isMarkReached_34 : decode cX10_isMarkReached 34 = .ok (.ireturn, 1) := by decide +kernel
theorem dX10_isMarkReached_35 : decode cX10_isMarkReached 35 = .ok (.iinc 2 1, 3) := by decide +kernel
theorem dX10_isMarkReached_38 : decode cX10_isMarkReached 38 = .ok (.goto (-32), 3) := by decide +kernel
theorem dX10_isMarkReached_41 : decode cX10_isMarkReached 41 = .ok (.iconst 0, 1) := by decide +kernel
theorem dX10_isMarkReached_42 : decode cX10_isMarkReached 42 = .ok (.ireturn, 1) := by decide +kernel
theorem dX10_isAskedForInVain_0 : decode cX10_isAskedForInVain 0 = .ok (.aload_n 0, 1) := by decide +kernel
theorem dX10_isAskedForInVain_1 : decode cX10_isAskedForInVain 1 = .ok (.getfield 75, 3) := by decide +kernel
theorem dX10_isAskedForInVain_4 : decode cX10_isAskedForInVain 4 = .ok (.iload_n 1, 1) := by decide +kernel
theorem dX10_isAskedForInVain_5 : decode cX10_isAskedForInVain 5 = .ok (.invokevirtual 279, 3) := by decide +kernel
theorem dX10_isAskedForInVain_8 : decode cX10_isAskedForInVain 8 = .ok (.ifCond .ne 5, 3) := by decide +kernel
theorem dX10_isAskedForInVain_11 : decode cX10_isAskedForInVain 11 = .ok (.iconst 0, 1) := by decide +kernel
theorem dX10_isAskedForInVain_12 : decode cX10_isAskedForInVain 12 = .ok (.ireturn, 1) := by decide +kernel
theorem dX10_isAskedForInVain_13 : decode cX10_isAskedForInVain 13 = .ok (.aload_n 0, 1) := by decide +kernel
theorem dX10_isAskedForInVain_14 : decode cX10_isAskedForInVain 14 = .ok (.invokevirtual 212, 3) := by decide +kernel
theorem dX10_isAskedForInVain_17 : decode cX10_isAskedForInVain 17 = .ok (.iconst 0, 1) := by decide +kernel
theorem dX10_isAskedForInVain_18 : decode cX10_isAskedForInVain 18 = .ok (.istore_n 2, 1) := by decide +kernel
theorem dX10_isAskedForInVain_19 : decode cX10_isAskedForInVain 19 = .ok (.iload_n 2, 1) := by decide +kernel
theorem dX10_isAskedForInVain_20 : decode cX10_isAskedForInVain 20 = .ok (.aload_n 0, 1) := by decide +kernel
theorem dX10_isAskedForInVain_21 : decode cX10_isAskedForInVain 21 = .ok (.getfield 33, 3) := by decide +kernel
theorem dX10_isAskedForInVain_24 : decode cX10_isAskedForInVain 24 = .ok (.getfield 262, 3) := by decide +kernel
theorem dX10_isAskedForInVain_27 : decode cX10_isAskedForInVain 27 = .ok (.if_icmp .ge 35, 3) := by decide +kernel
theorem dX10_isAskedForInVain_30 : decode cX10_isAskedForInVain 30 = .ok (.aload_n 0, 1) := by decide +kernel
theorem dX10_isAskedForInVain_31 : decode cX10_isAskedForInVain 31 = .ok (.iload_n 1, 1) := by decide +kernel
theorem dX10_isAskedForInVain_32 : decode cX10_isAskedForInVain 32 = .ok (.aload_n 0, 1) := by decide +kernel
theorem dX10_isAskedForInVain_33 : decode cX10_isAskedForInVain 33 = .ok (.getfield 33, 3) := by decide +kernel
theorem dX10_isAskedForInVain_36 : decode cX10_isAskedForInVain 36 = .ok (.iload_n 2, 1) := by decide +kernel
theorem dX10_isAskedForInVain_37 : decode cX10_isAskedForInVain 37 = .ok (.invokevirtual 265, 3) := by decide +kernel
theorem dX10_isAskedForInVain_40 : decode cX10_isAskedForInVain 40 = .ok (.aload_n 0, 1) := by decide +kernel
theorem dX10_isAskedForInVain_41 : decode cX10_isAskedForInVain 41 = .ok (.getfield 33, 3) := by decide +kernel
theorem dX10_isAskedForInVain_44 : decode cX10_isAskedForInVain 44 = .ok (.iload_n 2, 1) := by decide +kernel
theorem dX10_isAskedForInVain_45 : decode cX10_isAskedForInVain 45 = .ok (.invokevirtual 362, 3) := by decide +kernel
theorem dX10_isAskedForInVain_48 : decode cX10_isAskedForInVain 48 = .ok (.invokevirtual 365, 3) := by decide +kernel
theorem dX10_isAskedForInVain_51 : decode cX10_isAskedForInVain 51 = .ok (.ifCond .eq 5, 3) := by decide +kernel
theorem dX10_isAskedForInVain_54 : decode cX10_isAskedForInVain 54 = .ok (.iconst 0, 1) := by decide +kernel
theorem dX10_isAskedForInVain_55 : decode cX10_isAskedForInVain 55 = .ok (.ireturn, 1) := by decide +kernel
theorem dX10_isAskedForInVain_56 : decode cX10_isAskedForInVain 56 = .ok (.iinc 2 1, 3) := by decide +kernel
theorem dX10_isAskedForInVain_59 : decode cX10_isAskedForInVain 59 = .ok (.goto (-40), 3) := by decide +kernel
theorem dX10_isAskedForInVain_62 : decode cX10_isAskedForInVain 62 = .ok (.iconst 1, 1) := by decide +kernel
theorem dX10_isAskedForInVain_63 : decode cX10_isAskedForInVain 63 = .ok (.ireturn, 1) := by decide +kernel
theorem dX10_leadsOutWithout_0 : decode cX10_leadsOutWithout 0 = .ok (.aload_n 0, 1) := by decide +kernel
theorem dX10_leadsOutWithout_1 : decode cX10_leadsOutWithout 1 = .ok (.getfield 75, 3) := by decide +kernel
theorem dX10_leadsOutWithout_4 : decode cX10_leadsOutWithout 4 = .ok (.getfield 203, 3) := by decide +kernel
theorem dX10_leadsOutWithout_7 : decode cX10_leadsOutWithout 7 = .ok (.iload_n 2, 1) := by decide +kernel
theorem dX10_leadsOutWithout_8 : decode cX10_leadsOutWithout 8 = .ok (.invokestatic 135, 3) := by decide +kernel
theorem dX10_leadsOutWithout_11 : decode cX10_leadsOutWithout 11 = .ok (.iconst 1, 1) := by decide +kernel
theorem dX10_leadsOutWithout_12 : decode cX10_leadsOutWithout 12 = .ok (.if_icmp .ne 5, 3) := by decide +kernel
theorem dX10_leadsOutWithout_15 : decode cX10_leadsOutWithout 15 = .ok (.iconst 0, 1) := by decide +kernel
theorem dX10_leadsOutWithout_16 : decode cX10_leadsOutWithout 16 = .ok (.ireturn, 1) := by decide +kernel
theorem dX10_leadsOutWithout_17 : decode cX10_leadsOutWithout 17 = .ok (.aload_n 0, 1) := by decide +kernel
theorem dX10_leadsOutWithout_18 : decode cX10_leadsOutWithout 18 = .ok (.getfield 75, 3) := by decide +kernel
theorem dX10_leadsOutWithout_21 : decode cX10_leadsOutWithout 21 = .ok (.getfield 368, 3) := by decide +kernel
theorem dX10_leadsOutWithout_24 : decode cX10_leadsOutWithout 24 = .ok (.iload_n 2, 1) := by decide +kernel
theorem dX10_leadsOutWithout_25 : decode cX10_leadsOutWithout 25 = .ok (.iaload, 1) := by decide +kernel
theorem dX10_leadsOutWithout_26 : decode cX10_leadsOutWithout 26 = .ok (.istore 4, 2) := by decide +kernel
theorem dX10_leadsOutWithout_28 : decode cX10_leadsOutWithout 28 = .ok (.iload 4, 2) := by decide +kernel
