-- printed by wip/whole/gen1.py
theorem dX11_statesOf_5 : decode cX11_statesOf 5 = .ok (.imul, 1) := by decide +kernel
theorem dX11_statesOf_6 : decode cX11_statesOf 6 = .ok (.istore 4, 2) := by decide +kernel
theorem dX11_statesOf_8 : decode cX11_statesOf 8 = .ok (.iload 4, 2) := by decide +kernel
theorem dX11_statesOf_10 : decode cX11_statesOf 10 = .ok (.bipush 64, 2) := by decide +kernel
theorem dX11_statesOf_12 : decode cX11_statesOf 12 = .ok (.iload_n 1, 1) := by decide +kernel
theorem dX11_statesOf_13 : decode cX11_statesOf 13 = .ok (.imul, 1) := by decide +kernel
theorem dX11_statesOf_14 : decode cX11_statesOf 14 = .ok (.bipush 64, 2) := by decide +kernel
theorem dX11_statesOf_16 : decode cX11_statesOf 16 = .ok (.iadd, 1) := by decide +kernel
theorem dX11_statesOf_17 : decode cX11_statesOf 17 = .ok (.if_icmp .ge 66, 3) := by decide +kernel
theorem dX11_statesOf_20 : decode cX11_statesOf 20 = .ok (.iload_n 2, 1) := by decide +kernel
theorem dX11_statesOf_21 : decode cX11_statesOf 21 = .ok (.ifCond .ne 21, 3) := by decide +kernel
theorem dX11_statesOf_24 : decode cX11_statesOf 24 = .ok (.aload_n 0, 1) := by decide +kernel
theorem dX11_statesOf_25 : decode cX11_statesOf 25 = .ok (.getfield 44, 3) := by decide +kernel
theorem dX11_statesOf_28 : decode cX11_statesOf 28 = .ok (.iload 4, 2) := by decide +kernel
theorem dX11_statesOf_30 : decode cX11_statesOf 30 = .ok (.iaload, 1) := by decide +kernel
theorem dX11_statesOf_31 : decode cX11_statesOf 31 = .ok (.ifCond .lt 7, 3) := by decide +kernel
theorem dX11_statesOf_34 : decode cX11_statesOf 34 = .ok (.iconst 1, 1) := by decide +kernel
theorem dX11_statesOf_35 : decode cX11_statesOf 35 = .ok (.goto 27, 3) := by decide +kernel
theorem dX11_statesOf_38 : decode cX11_statesOf 38 = .ok (.iconst 0, 1) := by decide +kernel
theorem dX11_statesOf_39 : decode cX11_statesOf 39 = .ok (.goto 23, 3) := by decide +kernel
theorem dX11_statesOf_42 : decode cX11_statesOf 42 = .ok (.iload_n 2, 1) := by decide +kernel
theorem dX11_statesOf_43 : decode cX11_statesOf 43 = .ok (.iconst 1, 1) := by decide +kernel
theorem dX11_statesOf_44 : decode cX11_statesOf 44 = .ok (.if_icmp .ne 12, 3) := by decide +kernel
theorem dX11_statesOf_47 : decode cX11_statesOf 47 = .ok (.aload_n 0, 1) := by decide +kernel
theorem dX11_statesOf_48 : decode cX11_statesOf 48 = .ok (.iload 4, 2) := by decide +kernel
theorem dX11_statesOf_50 : decode cX11_statesOf 50 = .ok (.invokevirtual 244, 3) := by decide +kernel
theorem dX11_statesOf_53 : decode cX11_statesOf 53 = .ok (.goto 9, 3) := by decide +kernel
theorem dX11_statesOf_56 : decode cX11_statesOf 56 = .ok (.aload_n 0, 1) := by decide +kernel
theorem dX11_statesOf_57 : decode cX11_statesOf 57 = .ok (.iload 4, 2) := by decide +kernel
theorem dX11_statesOf_59 : decode cX11_statesOf 59 = .ok (.invokevirtual 247, 3) := by decide +kernel
theorem dX11_statesOf_62 : decode cX11_statesOf 62 = .ok (.istore 5, 2) := by decide +kernel
theorem dX11_statesOf_64 : decode cX11_statesOf 64 = .ok (.iload_n 3, 1) := by decide +kernel
theorem dX11_statesOf_65 : decode cX11_statesOf 65 = .ok (.iload 5, 2) := by decide +kernel
theorem dX11_statesOf_67 : decode cX11_statesOf 67 = .ok (.ifCond .eq 7, 3) := by decide +kernel
theorem dX11_statesOf_70 : decode cX11_statesOf 70 = .ok (.iconst 1, 1) := by decide +kernel
theorem dX11_statesOf_71 : decode cX11_statesOf 71 = .ok (.goto 4, 3) := by decide +kernel
theorem dX11_statesOf_74 : decode cX11_statesOf 74 = .ok (.iconst 0, 1) := by decide +kernel
theorem dX11_statesOf_75 : decode cX11_statesOf 75 = .ok (.iadd, 1) := by decide +kernel
theorem dX11_statesOf_76 : decode cX11_statesOf 76 = .ok (.istore_n 3, 1) := by decide +kernel
theorem dX11_statesOf_77 : decode cX11_statesOf 77 = .ok (.iinc 4 1, 3) := by decide +kernel
theorem dX11_statesOf_80 : decode cX11_statesOf 80 = .ok (.goto (-72), 3) := by decide +kernel
theorem dX11_statesOf_83 : decode cX11_statesOf 83 = .ok (.iload_n 3, 1) := by decide +kernel
theorem dX11_statesOf_84 : decode cX11_statesOf 84 = .ok (.ireturn, 1) := by decide +kernel
theorem dX11_marksOf_0 : decode cX11_marksOf 0 = .ok (.iload_n 2, 1) := by decide +kernel
theorem dX11_marksOf_1 : decode cX11_marksOf 1 = .ok (.ifCond .eq 8, 3) := by decide +kernel
theorem dX11_marksOf_4 : decode cX11_marksOf 4 = .ok (.bipush 63, 2) := by decide +kernel
theorem dX11_marksOf_6 : decode cX11_marksOf 6 = .ok (.goto 4, 3) := by decide +kernel
theorem dX11_marksOf_9 : decode cX11_marksOf 9 = .ok (.iconst 0, 1) := by decide +kernel
theorem dX11_marksOf_10 : decode cX11_marksOf 10 = .ok (.istore_n 3, 1) := by decide +kernel
theorem dX11_marksOf_11 : decode cX11_marksOf 11 = .ok (.iconst 0, 1) := by decide +kernel
theorem dX11_marksOf_12 : decode cX11_marksOf 12 = .ok (.istore 4, 2) := by decide +kernel
theorem dX11_marksOf_14 : decode cX11_marksOf 14 = .ok (.iconst 0, 1) := by decide +kernel
theorem dX11_marksOf_15 : decode cX11_marksOf 15 = .ok (.istore 5, 2) := by decide +kernel
theorem dX11_marksOf_17 : decode cX11_marksOf 17 = .ok (.iload 5, 2) := by decide +kernel
theorem dX11_marksOf_19 : decode cX11_marksOf 19 = .ok (.bipush 64, 2) := by decide +kernel
theorem dX11_marksOf_21 : decode cX11_marksOf 21 = .ok (.if_icmp .ge 43, 3) := by decide +kernel
theorem dX11_marksOf_24 : decode cX11_marksOf 24 = .ok (.aload_n 0, 1) := by decide +kernel
theorem dX11_marksOf_25 : decode cX11_marksOf 25 = .ok (.getfield 44, 3) := by decide +kernel
theorem dX11_marksOf_28 : decode cX11_marksOf 28 = .ok (.bipush 64, 2) := by decide +kernel
theorem dX11_marksOf_30 : decode cX11_marksOf 30 = .ok (.iload_n 1, 1) := by decide +kernel
theorem dX11_marksOf_31 : decode cX11_marksOf 31 = .ok (.imul, 1) := by decide +kernel
theorem dX11_marksOf_32 : decode cX11_marksOf 32 = .ok (.iload 5, 2) := by decide +kernel
theorem dX11_marksOf_34 : decode cX11_marksOf 34 = .ok (.iadd, 1) := by decide +kernel
theorem dX11_marksOf_35 : decode cX11_marksOf 35 = .ok (.iaload, 1) := by decide +kernel
theorem dX11_marksOf_36 : decode cX11_marksOf 36 = .ok (.ifCond .lt 22, 3) := by decide +kernel
theorem dX11_marksOf_39 : decode cX11_marksOf 39 = .ok (.iload_n 2, 1) := by decide +kernel
theorem dX11_marksOf_40 : decode cX11_marksOf 40 = .ok (.ifCond .eq 10, 3) := by decide +kernel
theorem dX11_marksOf_43 : decode cX11_marksOf 43 = .ok (.iload_n 3, 1) := by decide +kernel
theorem dX11_marksOf_44 : decode cX11_marksOf 44 = .ok (.iload 5, 2) := by decide +kernel
theorem dX11_marksOf_46 : decode cX11_marksOf 46 = .ok (.iand, 1) := by decide +kernel
theorem dX11_marksOf_47 : decode cX11_marksOf 47 = .ok (.goto 7, 3) := by decide +kernel
theorem dX11_marksOf_50 : decode cX11_marksOf 50 = .ok (.iload_n 3, 1) := by decide +kernel
theorem dX11_marksOf_51 : decode cX11_marksOf 51 = .ok (.iload 5, 2) := by decide +kernel
theorem dX11_marksOf_53 : decode cX11_marksOf 53 = .ok (.ior, 1) := by decide +kernel
theorem dX11_marksOf_54 : decode cX11_marksOf 54 = .ok (.istore_n 3, 1) := by decide +kernel
theorem dX11_marksOf_55 : decode cX11_marksOf 55 = .ok (.iinc 4 1, 3) := by decide +kernel
theorem dX11_marksOf_58 : decode cX11_marksOf 58 = .ok (.iinc 5 1, 3) := by decide +kernel
theorem dX11_marksOf_61 : decode cX11_marksOf 61 = .ok (.goto (-44), 3) := by decide +kernel
theorem dX11_marksOf_64 : decode cX11_marksOf 64 = .ok (.iload 4, 2) := by decide +kernel
theorem dX11_marksOf_66 : decode cX11_marksOf 66 = .ok (.ifCond .ne 7, 3) := by decide +kernel
theorem dX11_marksOf_69 : decode cX11_marksOf 69 = .ok (.iconst 0, 1) := by decide +kernel
theorem dX11_marksOf_70 : decode cX11_marksOf 70 = .ok (.goto 4, 3) := by decide +kernel
theorem dX11_marksOf_73 : decode cX11_marksOf 73 = .ok (.iload_n 3, 1) := by decide +kernel
theorem dX11_marksOf_74 : decode cX11_marksOf 74 = .ok (.ireturn, 1) := by decide +kernel
theorem dX11_line__0 : decode cX11_line_ 0 = .ok (.aload_n 0, 1) := by decide +kernel
theorem dX11_line__1 : decode cX11_line_ 1 = .ok (.iload_n 1, 1) := by decide +kernel
theorem dX11_line__2 : decode cX11_line_ 2 = .ok (.invokevirtual 250, 3) := by decide +kernel
theorem dX11_line__5 : decode cX11_line_ 5 = .ok (.ifCond .ne 6, 3) := by decide +kernel
theorem dX11_line__8 : decode cX11_line_ 8 = .ok (.ldc 214, 2) := by decide +kernel
theorem dX11_line__10 : decode cX11_line_ 10 = .ok (.ireturn, 1) := by decide +kernel
theorem dX11_line__11 : decode cX11_line_ 11 = .ok (.iload_n 2, 1) := by decide +kernel
theorem dX11_line__12 : decode cX11_line_ 12 = .ok (.i2l, 1) := by decide +kernel
theorem dX11_line__13 : decode cX11_line_ 13 = .ok (.lconst 0, 1) := by decide +kernel
theorem dX11_line__14 : decode cX11_line_ 14 = .ok (.ldc2_w 253, 3) := by decide +kernel
theorem dX11_line__17 : decode cX11_line_ 17 = .ok (.invokestatic 88, 3) := by decide +kernel
theorem dX11_line__20 : decode cX11_line_ 20 = .ok (.ifCond .ne 6, 3) := by decide +kernel
theorem dX11_line__23 : decode cX11_line_ 23 = .ok (.ldc 131, 2) := by decide +kernel
theorem dX11_line__25 : decode cX11_line_ 25 = .ok (.ireturn, 1) := by decide +kernel
theorem dX11_line__26 : decode cX11_line_ 26 = .ok (.aload_n 0, 1) := by decide +kernel
theorem dX11_line__27 : decode cX11_line_ 27 = .ok (.invokevirtual 255, 3) := by decide +kernel
theorem dX11_line__30 : decode cX11_line_ 30 = .ok (.pop, 1) := by decide +kernel
theorem dX11_line__31 : decode cX11_line_ 31 = .ok (.aload_n 0, 1) := by decide +kernel
theorem dX11_line__32 : decode cX11_line_ 32 = .ok (.invokevirtual 258, 3) := by decide +kernel
theorem dX11_line__35 : decode cX11_line_ 35 = .ok (.iload_n 2, 1) := by decide +kernel
theorem dX11_line__36 : decode cX11_line_ 36 = .ok (.tableswitch 71 0 4 #[36, 43, 50, 57, 64], 36) := by decide +kernel
theorem dX11_line__72 : decode cX11_line_ 72 = .ok (.aload_n 0, 1) := by decide +kernel
theorem dX11_line__73 : decode cX11_line_ 73 = .ok (.iload_n 1, 1) := by decide +kernel
theorem dX11_line__74 : decode cX11_line_ 74 = .ok (.iconst 0, 1) := by decide +kernel
theorem dX11_line__75 : decode cX11_line_ 75 = .ok (.invokevirtual 261, 3) := by decide +kernel
theorem dX11_line__78 : decode cX11_line_ 78 = .ok (.ireturn, 1) := by decide +kernel
theorem dX11_line__79 : decode cX11_line_ 79 = .ok (.aload_n 0, 1) := by decide +kernel
theorem dX11_line__80 : decode cX11_line_ 80 = .ok (.iload_n 1, 1) := by decide +kernel
theorem dX11_line__81 : decode cX11_line_ 81 = .ok (.iconst 1, 1) := by decide +kernel
theorem dX11_line__82 : decode cX11_line_ 82 = .ok (.invokevirtual 264, 3) := by decide +kernel
theorem dX11_line__85 : decode cX11_line_ 85 = .ok (.ireturn, 1) := by decide +kernel
theorem dX11_line__86 : decode cX11_line_ 86 = .ok (.aload_n 0, 1) := by decide +kernel
theorem dX11_line__87 : decode cX11_line_ 87 = .ok (.iload_n 1, 1) := by decide +kernel
theorem dX11_line__88 : decode cX11_line_ 88 = .ok (.iconst 0, 1) := by decide +kernel
theorem dX11_line__89 : decode cX11_line_ 89 = .ok (.invokevirtual 264, 3) := by decide +kernel
theorem dX11_line__92 : decode cX11_line_ 92 = .ok (.ireturn, 1) := by decide +kernel
theorem dX11_line__93 : decode cX11_line_ 93 = .ok (.aload_n 0, 1) := by decide +kernel
theorem dX11_line__94 : decode cX11_line_ 94 = .ok (.iload_n 1, 1) := by decide +kernel
theorem dX11_line__95 : decode cX11_line_ 95 = .ok (.iconst 1, 1) := by decide +kernel
theorem dX11_line__96 : decode cX11_line_ 96 = .ok (.invokevirtual 261, 3) := by decide +kernel
theorem dX11_line__99 : decode cX11_line_ 99 = .ok (.ireturn, 1) := by decide +kernel
theorem dX11_line__100 : decode cX11_line_ 100 = .ok (.aload_n 0, 1) := by decide +kernel
theorem dX11_line__101 : decode cX11_line_ 101 = .ok (.iload_n 1, 1) := by decide +kernel
theorem dX11_line__102 : decode cX11_line_ 102 = .ok (.iconst 2, 1) := by decide +kernel
theorem dX11_line__103 : decode cX11_line_ 103 = .ok (.invokevirtual 261, 3) := by decide +kernel
theorem dX11_line__106 : decode cX11_line_ 106 = .ok (.ireturn, 1) := by decide +kernel
theorem dX11_line__107 : decode cX11_line_ 107 = .ok (.aload_n 0, 1) := by decide +kernel
theorem dX11_line__108 : decode cX11_line_ 108 = .ok (.getfield 98, 3) := by decide +kernel
theorem dX11_line__111 : decode cX11_line_ 111 = .ok (.iload_n 1, 1) := by decide +kernel
theorem dX11_line__112 : decode cX11_line_ 112 = .ok (.invokestatic 94, 3) := by decide +kernel
theorem dX11_line__115 : decode cX11_line_ 115 = .ok (.ifCond .eq 7, 3) := by decide +kernel
theorem dX11_line__118 : decode cX11_line_ 118 = .ok (.iconst 1, 1) := by decide +kernel
theorem dX11_line__119 : decode cX11_line_ 119 = .ok (.goto 4, 3) := by decide +kernel
theorem dX11_line__122 : decode cX11_line_ 122 = .ok (.iconst 0, 1) := by decide +kernel
theorem dX11_line__123 : decode cX11_line_ 123 = .ok (.ireturn, 1) := by decide +kernel
theorem dX11_cheapest_0 : decode cX11_cheapest 0 = .ok (.iconst 0, 1) := by decide +kernel
theorem dX11_cheapest_1 : decode cX11_cheapest 1 = .ok (.istore_n 2, 1) := by decide +kernel
theorem dX11_cheapest_2 : decode cX11_cheapest 2 = .ok (.iload_n 2, 1) := by decide +kernel
theorem dX11_cheapest_3 : decode cX11_cheapest 3 = .ok (.sipush 1024, 3) := by decide +kernel
theorem dX11_cheapest_6 : decode cX11_cheapest 6 = .ok (.if_icmp .ge 16, 3) := by decide +kernel
theorem dX11_cheapest_9 : decode cX11_cheapest 9 = .ok (.aload_n 0, 1) := by decide +kernel
theorem dX11_cheapest_10 : decode cX11_cheapest 10 = .ok (.getfield 65, 3) := by decide +kernel
theorem dX11_cheapest_13 : decode cX11_cheapest 13 = .ok (.iload_n 2, 1) := by decide +kernel
theorem dX11_cheapest_14 : decode cX11_cheapest 14 = .ok (.iconst (-1), 1) := by decide +kernel
theorem dX11_cheapest_15 : decode cX11_cheapest 15 = .ok (.iastore, 1) := by decide +kernel
theorem dX11_cheapest_16 : decode cX11_cheapest 16 = .ok (.iinc 2 1, 3) := by decide +kernel
theorem dX11_cheapest_19 : decode cX11_cheapest 19 = .ok (.goto (-17), 3) := by decide +kernel
theorem dX11_cheapest_22 : decode cX11_cheapest 22 = .ok (.aload_n 0, 1) := by decide +kernel
theorem dX11_cheapest_23 : decode cX11_cheapest 23 = .ok (.getfield 65, 3) := by decide +kernel
theorem dX11_cheapest_26 : decode cX11_cheapest 26 = .ok (.aload_n 0, 1) := by decide +kernel
theorem dX11_cheapest_27 : decode cX11_cheapest 27 = .ok (.invokevirtual 118, 3) := by decide +kernel
theorem dX11_cheapest_30 : decode cX11_cheapest 30 = .ok (.iconst 0, 1) := by decide +kernel
theorem dX11_cheapest_31 : decode cX11_cheapest 31 = .ok (.iastore, 1) := by decide +kernel
theorem dX11_cheapest_32 : decode cX11_cheapest 32 = .ok (.iconst 1, 1) := by decide +kernel
theorem dX11_cheapest_33 : decode cX11_cheapest 33 = .ok (.istore_n 2, 1) := by decide +kernel
theorem dX11_cheapest_34 : decode cX11_cheapest 34 = .ok (.iload_n 2, 1) := by decide +kernel
theorem dX11_cheapest_35 : decode cX11_cheapest 35 = .ok (.ifCond .eq 162, 3) := by decide +kernel
theorem dX11_cheapest_38 : decode cX11_cheapest 38 = .ok (.iconst 0, 1) := by decide +kernel
theorem dX11_cheapest_39 : decode cX11_cheapest 39 = .ok (.istore_n 2, 1) := by decide +kernel
theorem dX11_cheapest_40 : decode cX11_cheapest 40 = .ok (.iconst 0, 1) := by decide +kernel
theorem dX11_cheapest_41 : decode cX11_cheapest 41 = .ok (.istore_n 3, 1) := by decide +kernel
theorem dX11_cheapest_42 : decode cX11_cheapest 42 = .ok (.iload_n 3, 1) := by decide +kernel
theorem dX11_cheapest_43 : decode cX11_cheapest 43 = .ok (.sipush 1024, 3) := by decide +kernel
theorem dX11_cheapest_46 : decode cX11_cheapest 46 = .ok (.if_icmp .ge 148, 3) := by decide +kernel
theorem dX11_cheapest_49 : decode cX11_cheapest 49 = .ok (.iconst 0, 1) := by decide +kernel
theorem dX11_cheapest_50 : decode cX11_cheapest 50 = .ok (.istore 4, 2) := by decide +kernel
theorem dX11_cheapest_52 : decode cX11_cheapest 52 = .ok (.iload 4, 2) := by decide +kernel
theorem dX11_cheapest_54 : decode cX11_cheapest 54 = .ok (.aload_n 0, 1) := by decide +kernel
theorem dX11_cheapest_55 : decode cX11_cheapest 55 = .ok (.getfield 85, 3) := by decide +kernel
theorem dX11_cheapest_58 : decode cX11_cheapest 58 = .ok (.if_icmp .ge 130, 3) := by decide +kernel
theorem dX11_cheapest_61 : decode cX11_cheapest 61 = .ok (.aload_n 0, 1) := by decide +kernel
theorem dX11_cheapest_62 : decode cX11_cheapest 62 = .ok (.getfield 65, 3) := by decide +kernel
theorem dX11_cheapest_65 : decode cX11_cheapest 65 = .ok (.iload_n 3, 1) := by decide +kernel
theorem dX11_cheapest_66 : decode cX11_cheapest 66 = .ok (.iaload, 1) := by decide +kernel
theorem dX11_cheapest_67 : decode cX11_cheapest 67 = .ok (.ifCond .lt 121, 3) := by decide +kernel
theorem dX11_cheapest_70 : decode cX11_cheapest 70 = .ok (.aload_n 0, 1) := by decide +kernel
theorem dX11_cheapest_71 : decode cX11_cheapest 71 = .ok (.iload 4, 2) := by decide +kernel
theorem dX11_cheapest_73 : decode cX11_cheapest 73 = .ok (.iload_n 3, 1) := by decide +kernel
theorem dX11_cheapest_74 : decode cX11_cheapest 74 = .ok (.invokevirtual 108, 3) := by decide +kernel
theorem dX11_cheapest_77 : decode cX11_cheapest 77 = .ok (.istore 5, 2) := by decide +kernel
theorem dX11_cheapest_79 : decode cX11_cheapest 79 = .ok (.aload_n 0, 1) := by decide +kernel
theorem dX11_cheapest_80 : decode cX11_cheapest 80 = .ok (.iload 4, 2) := by decide +kernel
theorem dX11_cheapest_82 : decode cX11_cheapest 82 = .ok (.iload_n 3, 1) := by decide +kernel
theorem dX11_cheapest_83 : decode cX11_cheapest 83 = .ok (.iconst (-1), 1) := by decide +kernel
theorem dX11_cheapest_84 : decode cX11_cheapest 84 = .ok (.invokevirtual 105, 3) := by decide +kernel
theorem dX11_cheapest_87 : decode cX11_cheapest 87 = .ok (.ifCond .eq 41, 3) := by decide +kernel
theorem dX11_cheapest_90 : decode cX11_cheapest 90 = .ok (.aload_n 0, 1) := by decide +kernel
theorem dX11_cheapest_91 : decode cX11_cheapest 91 = .ok (.getfield 65, 3) := by decide +kernel
theorem dX11_cheapest_94 : decode cX11_cheapest 94 = .ok (.iload 5, 2) := by decide +kernel
theorem dX11_cheapest_96 : decode cX11_cheapest 96 = .ok (.iaload, 1) := by decide +kernel
theorem dX11_cheapest_97 : decode cX11_cheapest 97 = .ok (.ifCond .lt 27, 3) := by decide +kernel
theorem dX11_cheapest_100 : decode cX11_cheapest 100 = .ok (.aload_n 0, 1) := by decide +kernel
theorem dX11_cheapest_101 : decode cX11_cheapest 101 = .ok (.getfield 65, 3) := by decide +kernel
theorem dX11_cheapest_104 : decode cX11_cheapest 104 = .ok (.iload 5, 2) := by decide +kernel
theorem dX11_cheapest_106 : decode cX11_cheapest 106 = .ok (.iaload, 1) := by decide +kernel
theorem dX11_cheapest_107 : decode cX11_cheapest 107 = .ok (.aload_n 0, 1) := by decide +kernel
theorem dX11_cheapest_108 : decode cX11_cheapest 108 = .ok (.getfield 65, 3) := by decide +kernel
theorem dX11_cheapest_111 : decode cX11_cheapest 111 = .ok (.iload_n 3, 1) := by decide +kernel
theorem dX11_cheapest_112 : decode cX11_cheapest 112 = .ok (.iaload, 1) := by decide +kernel
theorem dX11_cheapest_113 : decode cX11_cheapest 113 = .ok (.aload_n 0, 1) := by decide +kernel
theorem dX11_cheapest_114 : decode cX11_cheapest 114 = .ok (.getfield 16, 3) := by decide +kernel
theorem dX11_cheapest_117 : decode cX11_cheapest 117 = .ok (.iload 4, 2) := by decide +kernel
theorem dX11_cheapest_119 : decode cX11_cheapest 119 = .ok (.iaload, 1) := by decide +kernel
theorem dX11_cheapest_120 : decode cX11_cheapest 120 = .ok (.iadd, 1) := by decide +kernel
theorem dX11_cheapest_121 : decode cX11_cheapest 121 = .ok (.if_icmp .le 7, 3) := by decide +kernel
theorem dX11_cheapest_124 : decode cX11_cheapest 124 = .ok (.iconst 1, 1) := by decide +kernel
theorem dX11_cheapest_125 : decode cX11_cheapest 125 = .ok (.goto 4, 3) := by decide +kernel
theorem dX11_cheapest_128 : decode cX11_cheapest 128 = .ok (.iconst 0, 1) := by decide +kernel
theorem dX11_cheapest_129 : decode cX11_cheapest 129 = .ok (.istore 6, 2) := by decide +kernel
theorem dX11_cheapest_131 : decode cX11_cheapest 131 = .ok (.aload_n 0, 1) := by decide +kernel
theorem dX11_cheapest_132 : decode cX11_cheapest 132 = .ok (.getfield 65, 3) := by decide +kernel
theorem dX11_cheapest_135 : decode cX11_cheapest 135 = .ok (.iload 5, 2) := by decide +kernel
theorem dX11_cheapest_137 : decode cX11_cheapest 137 = .ok (.iload 6, 2) := by decide +kernel
theorem dX11_cheapest_139 : decode cX11_cheapest 139 = .ok (.ifCond .eq 20, 3) := by decide +kernel
theorem dX11_cheapest_142 : decode cX11_cheapest 142 = .ok (.aload_n 0, 1) := by decide +kernel
theorem dX11_cheapest_143 : decode cX11_cheapest 143 = .ok (.getfield 65, 3) := by decide +kernel
theorem dX11_cheapest_146 : decode cX11_cheapest 146 = .ok (.iload_n 3, 1) := by decide +kernel
theorem dX11_cheapest_147 : decode cX11_cheapest 147 = .ok (.iaload, 1) := by decide +kernel
theorem dX11_cheapest_148 : decode cX11_cheapest 148 = .ok (.aload_n 0, 1) := by decide +kernel
theorem dX11_cheapest_149 : decode cX11_cheapest 149 = .ok (.getfield 16, 3) := by decide +kernel
theorem dX11_cheapest_152 : decode cX11_cheapest 152 = .ok (.iload 4, 2) := by decide +kernel
theorem dX11_cheapest_154 : decode cX11_cheapest 154 = .ok (.iaload, 1) := by decide +kernel
theorem dX11_cheapest_155 : decode cX11_cheapest 155 = .ok (.iadd, 1) := by decide +kernel
theorem dX11_cheapest_156 : decode cX11_cheapest 156 = .ok (.goto 10, 3) := by decide +kernel
theorem dX11_cheapest_159 : decode cX11_cheapest 159 = .ok (.aload_n 0, 1) := by decide +kernel
theorem dX11_cheapest_160 : decode cX11_cheapest 160 = .ok (.getfield 65, 3) := by decide +kernel
theorem dX11_cheapest_163 : decode cX11_cheapest 163 = .ok (.iload 5, 2) := by decide +kernel
theorem dX11_cheapest_165 : decode cX11_cheapest 165 = .ok (.iaload, 1) := by decide +kernel
theorem dX11_cheapest_166 : decode cX11_cheapest 166 = .ok (.iastore, 1) := by decide +kernel
theorem dX11_cheapest_167 : decode cX11_cheapest 167 = .ok (.iload_n 2, 1) := by decide +kernel
theorem dX11_cheapest_168 : decode cX11_cheapest 168 = .ok (.ifCond .ne 8, 3) := by decide +kernel
theorem dX11_cheapest_171 : decode cX11_cheapest 171 = .ok (.iload 6, 2) := by decide +kernel
theorem dX11_cheapest_173 : decode cX11_cheapest 173 = .ok (.ifCond .eq 7, 3) := by decide +kernel
theorem dX11_cheapest_176 : decode cX11_cheapest 176 = .ok (.iconst 1, 1) := by decide +kernel
theorem dX11_cheapest_177 : decode cX11_cheapest 177 = .ok (.goto 4, 3) := by decide +kernel
theorem dX11_cheapest_180 : decode cX11_cheapest 180 = .ok (.iconst 0, 1) := by decide +kernel
theorem dX11_cheapest_181 : decode cX11_cheapest 181 = .ok (.istore_n 2, 1) := by decide +kernel
theorem dX11_cheapest_182 : decode cX11_cheapest 182 = .ok (.iinc 4 1, 3) := by decide +kernel
theorem dX11_cheapest_185 : decode cX11_cheapest 185 = .ok (.goto (-133), 3) := by decide +kernel
theorem dX11_cheapest_188 : decode cX11_cheapest 188 = .ok (.iinc 3 1, 3) := by decide +kernel
theorem dX11_cheapest_191 : decode cX11_cheapest 191 = .ok (.goto (-149), 3) := by decide +kernel
theorem dX11_cheapest_194 : decode cX11_cheapest 194 = .ok (.goto (-160), 3) := by decide +kernel
theorem dX11_cheapest_197 : decode cX11_cheapest 197 = .ok (.iconst (-1), 1) := by decide +kernel
theorem dX11_cheapest_198 : decode cX11_cheapest 198 = .ok (.istore_n 3, 1) := by decide +kernel
theorem dX11_cheapest_199 : decode cX11_cheapest 199 = .ok (.bipush 64, 2) := by decide +kernel
theorem dX11_cheapest_201 : decode cX11_cheapest 201 = .ok (.iload_n 1, 1) := by decide +kernel
theorem dX11_cheapest_202 : decode cX11_cheapest 202 = .ok (.imul, 1) := by decide +kernel
theorem dX11_cheapest_203 : decode cX11_cheapest 203 = .ok (.istore 4, 2) := by decide +kernel
theorem dX11_cheapest_205 : decode cX11_cheapest 205 = .ok (.iload 4, 2) := by decide +kernel
theorem dX11_cheapest_207 : decode cX11_cheapest 207 = .ok (.bipush 64, 2) := by decide +kernel
theorem dX11_cheapest_209 : decode cX11_cheapest 209 = .ok (.iload_n 1, 1) := by decide +kernel
theorem dX11_cheapest_210 : decode cX11_cheapest 210 = .ok (.imul, 1) := by decide +kernel
theorem dX11_cheapest_211 : decode cX11_cheapest 211 = .ok (.bipush 64, 2) := by decide +kernel
theorem dX11_cheapest_213 : decode cX11_cheapest 213 = .ok (.iadd, 1) := by decide +kernel
theorem dX11_cheapest_214 : decode cX11_cheapest 214 = .ok (.if_icmp .ge 46, 3) := by decide +kernel
theorem dX11_cheapest_217 : decode cX11_cheapest 217 = .ok (.aload_n 0, 1) := by decide +kernel
theorem dX11_cheapest_218 : decode cX11_cheapest 218 = .ok (.getfield 65, 3) := by decide +kernel
theorem dX11_cheapest_221 : decode cX11_cheapest 221 = .ok (.iload 4, 2) := by decide +kernel
theorem dX11_cheapest_223 : decode cX11_cheapest 223 = .ok (.iaload, 1) := by decide +kernel
theorem dX11_cheapest_224 : decode cX11_cheapest 224 = .ok (.ifCond .lt 28, 3) := by decide +kernel
theorem dX11_cheapest_227 : decode cX11_cheapest 227 = .ok (.iload_n 3, 1) := by decide +kernel
theorem dX11_cheapest_228 : decode cX11_cheapest 228 = .ok (.ifCond .lt 14, 3) := by decide +kernel
theorem dX11_cheapest_231 : decode cX11_cheapest 231 = .ok (.aload_n 0, 1) := by decide +kernel
theorem dX11_cheapest_232 : decode cX11_cheapest 232 = .ok (.getfield 65, 3) := by decide +kernel
theorem dX11_cheapest_235 : decode cX11_cheapest 235 = .ok (.iload 4, 2) := by decide +kernel
theorem dX11_cheapest_237 : decode cX11_cheapest 237 = .ok (.iaload, 1) := by decide +kernel
theorem dX11_cheapest_238 : decode cX11_cheapest 238 = .ok (.iload_n 3, 1) := by decide +kernel
theorem dX11_cheapest_239 : decode cX11_cheapest 239 = .ok (.if_icmp .ge 13, 3) := by decide +kernel
theorem dX11_cheapest_242 : decode cX11_cheapest 242 = .ok (.aload_n 0, 1) := by decide +kernel
theorem dX11_cheapest_243 : decode cX11_cheapest 243 = .ok (.getfield 65, 3) := by decide +kernel
theorem dX11_cheapest_246 : decode cX11_cheapest 246 = .ok (.iload 4, 2) := by decide +kernel
theorem dX11_cheapest_248 : decode cX11_cheapest 248 = .ok (.iaload, 1) := by decide +kernel
theorem dX11_cheapest_249 : decode cX11_cheapest 249 = .ok (.goto 4, 3) := by decide +kernel
theorem dX11_cheapest_252 : decode cX11_cheapest 252 = .ok (.iload_n 3, 1) := by decide +kernel
theorem dX11_cheapest_253 : decode cX11_cheapest 253 = .ok (.istore_n 3, 1) := by decide +kernel
theorem dX11_cheapest_254 : decode cX11_cheapest 254 = .ok (.iinc 4 1, 3) := by decide +kernel
theorem dX11_cheapest_257 : decode cX11_cheapest 257 = .ok (.goto (-52), 3) := by decide +kernel
theorem dX11_cheapest_260 : decode cX11_cheapest 260 = .ok (.iload_n 3, 1) := by decide +kernel
theorem dX11_cheapest_261 : decode cX11_cheapest 261 = .ok (.ireturn, 1) := by decide +kernel
theorem dX11_least_0 : decode cX11_least 0 = .ok (.aload_n 0, 1) := by decide +kernel
theorem dX11_least_1 : decode cX11_least 1 = .ok (.iload_n 1, 1) := by decide +kernel
theorem dX11_least_2 : decode cX11_least 2 = .ok (.invokevirtual 250, 3) := by decide +kernel
theorem dX11_least_5 : decode cX11_least 5 = .ok (.ifCond .ne 6, 3) := by decide +kernel
theorem dX11_least_8 : decode cX11_least 8 = .ok (.ldc 214, 2) := by decide +kernel
theorem dX11_least_10 : decode cX11_least 10 = .ok (.ireturn, 1) := by decide +kernel
theorem dX11_least_11 : decode cX11_least 11 = .ok (.iload_n 2, 1) := by decide +kernel
theorem dX11_least_12 : decode cX11_least 12 = .ok (.i2l, 1) := by decide +kernel
theorem dX11_least_13 : decode cX11_least 13 = .ok (.lconst 0, 1) := by decide +kernel
theorem dX11_least_14 : decode cX11_least 14 = .ok (.lconst 1, 1) := by decide +kernel
theorem dX11_least_15 : decode cX11_least 15 = .ok (.invokestatic 88, 3) := by decide +kernel
theorem dX11_least_18 : decode cX11_least 18 = .ok (.ifCond .ne 6, 3) := by decide +kernel
theorem dX11_least_21 : decode cX11_least 21 = .ok (.ldc 131, 2) := by decide +kernel
theorem dX11_least_23 : decode cX11_least 23 = .ok (.ireturn, 1) := by decide +kernel
theorem dX11_least_24 : decode cX11_least 24 = .ok (.iload_n 2, 1) := by decide +kernel
theorem dX11_least_25 : decode cX11_least 25 = .ok (.iconst 1, 1) := by decide +kernel
theorem dX11_least_26 : decode cX11_least 26 = .ok (.if_icmp .ne 9, 3) := by decide +kernel
theorem dX11_least_29 : decode cX11_least 29 = .ok (.aload_n 0, 1) := by decide +kernel
theorem dX11_least_30 : decode cX11_least 30 = .ok (.iload_n 1, 1) := by decide +kernel
theorem dX11_least_31 : decode cX11_least 31 = .ok (.invokevirtual 268, 3) := by decide +kernel
theorem dX11_least_34 : decode cX11_least 34 = .ok (.ireturn, 1) := by decide +kernel
theorem dX11_least_35 : decode cX11_least 35 = .ok (.aload_n 0, 1) := by decide +kernel
theorem dX11_least_36 : decode cX11_least 36 = .ok (.invokevirtual 255, 3) := by decide +kernel
theorem dX11_least_39 : decode cX11_least 39 = .ok (.pop, 1) := by decide +kernel
theorem dX11_least_40 : decode cX11_least 40 = .ok (.aload_n 0, 1) := by decide +kernel
theorem dX11_least_41 : decode cX11_least 41 = .ok (.iload_n 1, 1) := by decide +kernel
theorem dX11_least_42 : decode cX11_least 42 = .ok (.invokevirtual 271, 3) := by decide +kernel
theorem dX11_least_45 : decode cX11_least 45 = .ok (.ireturn, 1) := by decide +kernel
theorem dX11_laysGood_0 : decode cX11_laysGood 0 = .ok (.iconst 0, 1) := by decide +kernel
theorem dX11_laysGood_1 : decode cX11_laysGood 1 = .ok (.istore_n 3, 1) := by decide +kernel
theorem dX11_laysGood_2 : decode cX11_laysGood 2 = .ok (.iload_n 3, 1) := by decide +kernel
theorem dX11_laysGood_3 : decode cX11_laysGood 3 = .ok (.sipush 1024, 3) := by decide +kernel
theorem dX11_laysGood_6 : decode cX11_laysGood 6 = .ok (.if_icmp .ge 38, 3) := by decide +kernel
theorem dX11_laysGood_9 : decode cX11_laysGood 9 = .ok (.aload_n 0, 1) := by decide +kernel
theorem dX11_laysGood_10 : decode cX11_laysGood 10 = .ok (.getfield 68, 3) := by decide +kernel
theorem dX11_laysGood_13 : decode cX11_laysGood 13 = .ok (.iload_n 3, 1) := by decide +kernel
theorem dX11_laysGood_14 : decode cX11_laysGood 14 = .ok (.aload_n 0, 1) := by decide +kernel
theorem dX11_laysGood_15 : decode cX11_laysGood 15 = .ok (.getfield 44, 3) := by decide +kernel
theorem dX11_laysGood_18 : decode cX11_laysGood 18 = .ok (.iload_n 3, 1) := by decide +kernel
theorem dX11_laysGood_19 : decode cX11_laysGood 19 = .ok (.iaload, 1) := by decide +kernel
theorem dX11_laysGood_20 : decode cX11_laysGood 20 = .ok (.iload_n 2, 1) := by decide +kernel
theorem dX11_laysGood_21 : decode cX11_laysGood 21 = .ok (.if_icmp .ne 15, 3) := by decide +kernel
theorem dX11_laysGood_24 : decode cX11_laysGood 24 = .ok (.iload_n 3, 1) := by decide +kernel
theorem dX11_laysGood_25 : decode cX11_laysGood 25 = .ok (.bipush 64, 2) := by decide +kernel
theorem dX11_laysGood_27 : decode cX11_laysGood 27 = .ok (.idiv, 1) := by decide +kernel
theorem dX11_laysGood_28 : decode cX11_laysGood 28 = .ok (.iload_n 1, 1) := by decide +kernel
theorem dX11_laysGood_29 : decode cX11_laysGood 29 = .ok (.if_icmp .ne 7, 3) := by decide +kernel
theorem dX11_laysGood_32 : decode cX11_laysGood 32 = .ok (.iconst 1, 1) := by decide +kernel
theorem dX11_laysGood_33 : decode cX11_laysGood 33 = .ok (.goto 4, 3) := by decide +kernel
theorem dX11_laysGood_36 : decode cX11_laysGood 36 = .ok (.iconst 0, 1) := by decide +kernel
theorem dX11_laysGood_37 : decode cX11_laysGood 37 = .ok (.bastore, 1) := by decide +kernel
theorem dX11_laysGood_38 : decode cX11_laysGood 38 = .ok (.iinc 3 1, 3) := by decide +kernel
theorem dX11_laysGood_41 : decode cX11_laysGood 41 = .ok (.goto (-39), 3) := by decide +kernel
theorem dX11_laysGood_44 : decode cX11_laysGood 44 = .ok (.iload_n 2, 1) := by decide +kernel
theorem dX11_laysGood_45 : decode cX11_laysGood 45 = .ok (.iconst 1, 1) := by decide +kernel
theorem dX11_laysGood_46 : decode cX11_laysGood 46 = .ok (.isub, 1) := by decide +kernel
theorem dX11_laysGood_47 : decode cX11_laysGood 47 = .ok (.istore_n 3, 1) := by decide +kernel
theorem dX11_laysGood_48 : decode cX11_laysGood 48 = .ok (.iload_n 3, 1) := by decide +kernel
theorem dX11_laysGood_49 : decode cX11_laysGood 49 = .ok (.ifCond .lt 80, 3) := by decide +kernel
theorem dX11_laysGood_52 : decode cX11_laysGood 52 = .ok (.iconst 0, 1) := by decide +kernel
theorem dX11_laysGood_53 : decode cX11_laysGood 53 = .ok (.istore 4, 2) := by decide +kernel
theorem dX11_laysGood_55 : decode cX11_laysGood 55 = .ok (.iload 4, 2) := by decide +kernel
theorem dX11_laysGood_57 : decode cX11_laysGood 57 = .ok (.sipush 1024, 3) := by decide +kernel
theorem dX11_laysGood_60 : decode cX11_laysGood 60 = .ok (.if_icmp .ge 63, 3) := by decide +kernel
theorem dX11_laysGood_63 : decode cX11_laysGood 63 = .ok (.iconst 0, 1) := by decide +kernel
theorem dX11_laysGood_64 : decode cX11_laysGood 64 = .ok (.istore 5, 2) := by decide +kernel
theorem dX11_laysGood_66 : decode cX11_laysGood 66 = .ok (.iload 5, 2) := by decide +kernel
theorem dX11_laysGood_68 : decode cX11_laysGood 68 = .ok (.aload_n 0, 1) := by decide +kernel
theorem dX11_laysGood_69 : decode cX11_laysGood 69 = .ok (.getfield 85, 3) := by decide +kernel
theorem dX11_laysGood_72 : decode cX11_laysGood 72 = .ok (.if_icmp .ge 45, 3) := by decide +kernel
theorem dX11_laysGood_75 : decode cX11_laysGood 75 = .ok (.aload_n 0, 1) := by decide +kernel
theorem dX11_laysGood_76 : decode cX11_laysGood 76 = .ok (.getfield 44, 3) := by decide +kernel
theorem dX11_laysGood_79 : decode cX11_laysGood 79 = .ok (.iload 4, 2) := by decide +kernel
theorem dX11_laysGood_81 : decode cX11_laysGood 81 = .ok (.iaload, 1) := by decide +kernel
theorem dX11_laysGood_82 : decode cX11_laysGood 82 = .ok (.iload_n 3, 1) := by decide +kernel
theorem dX11_laysGood_83 : decode cX11_laysGood 83 = .ok (.if_icmp .ne 34, 3) := by decide +kernel
theorem dX11_laysGood_86 : decode cX11_laysGood 86 = .ok (.aload_n 0, 1) := by decide +kernel
theorem dX11_laysGood_87 : decode cX11_laysGood 87 = .ok (.getfield 68, 3) := by decide +kernel
theorem dX11_laysGood_90 : decode cX11_laysGood 90 = .ok (.iload 4, 2) := by decide +kernel
theorem dX11_laysGood_92 : decode cX11_laysGood 92 = .ok (.baload, 1) := by decide +kernel
theorem dX11_laysGood_93 : decode cX11_laysGood 93 = .ok (.ifCond .ne 24, 3) := by decide +kernel
theorem dX11_laysGood_96 : decode cX11_laysGood 96 = .ok (.aload_n 0, 1) := by decide +kernel
theorem dX11_laysGood_97 : decode cX11_laysGood 97 = .ok (.getfield 68, 3) := by decide +kernel
theorem dX11_laysGood_100 : decode cX11_laysGood 100 = .ok (.iload 4, 2) := by decide +kernel
theorem dX11_laysGood_102 : decode cX11_laysGood 102 = .ok (.aload_n 0, 1) := by decide +kernel
theorem dX11_laysGood_103 : decode cX11_laysGood 103 = .ok (.iload 5, 2) := by decide +kernel
theorem dX11_laysGood_105 : decode cX11_laysGood 105 = .ok (.iload 4, 2) := by decide +kernel
theorem dX11_laysGood_107 : decode cX11_laysGood 107 = .ok (.invokevirtual 274, 3) := by decide +kernel
theorem dX11_laysGood_110 : decode cX11_laysGood 110 = .ok (.bastore, 1) := by decide +kernel
theorem dX11_laysGood_111 : decode cX11_laysGood 111 = .ok (.iinc 5 1, 3) := by decide +kernel
theorem dX11_laysGood_114 : decode cX11_laysGood 114 = .ok (.goto (-48), 3) := by decide +kernel
theorem dX11_laysGood_117 : decode cX11_laysGood 117 = .ok (.iinc 4 1, 3) := by decide +kernel
theorem dX11_laysGood_120 : decode cX11_laysGood 120 = .ok (.goto (-65), 3) := by decide +kernel
theorem dX11_laysGood_123 : decode cX11_laysGood 123 = .ok (.iinc 3 (-1), 3) := by decide +kernel
theorem dX11_laysGood_126 : decode cX11_laysGood 126 = .ok (.goto (-78), 3) := by decide +kernel
theorem dX11_laysGood_129 : decode cX11_laysGood 129 = .ok (.return_, 1) := by decide +kernel
theorem dX11_goesOn_0 : decode cX11_goesOn 0 = .ok (.aload_n 0, 1) := by decide +kernel
theorem dX11_goesOn_1 : decode cX11_goesOn 1 = .ok (.iload_n 1, 1) := by decide +kernel
theorem dX11_goesOn_2 : decode cX11_goesOn 2 = .ok (.iload_n 2, 1) := by decide +kernel
theorem dX11_goesOn_3 : decode cX11_goesOn 3 = .ok (.invokevirtual 108, 3) := by decide +kernel
theorem dX11_goesOn_6 : decode cX11_goesOn 6 = .ok (.istore_n 3, 1) := by decide +kernel
theorem dX11_goesOn_7 : decode cX11_goesOn 7 = .ok (.aload_n 0, 1) := by decide +kernel
theorem dX11_goesOn_8 : decode cX11_goesOn 8 = .ok (.iload_n 1, 1) := by decide +kernel
theorem dX11_goesOn_9 : decode cX11_goesOn 9 = .ok (.iload_n 2, 1) := by decide +kernel
theorem dX11_goesOn_10 : decode cX11_goesOn 10 = .ok (.iconst (-1), 1) := by decide +kernel
theorem dX11_goesOn_11 : decode cX11_goesOn 11 = .ok (.invokevirtual 105, 3) := by decide +kernel
theorem dX11_goesOn_14 : decode cX11_goesOn 14 = .ok (.ifCond .eq 33, 3) := by decide +kernel
theorem dX11_goesOn_17 : decode cX11_goesOn 17 = .ok (.aload_n 0, 1) := by decide +kernel
theorem dX11_goesOn_18 : decode cX11_goesOn 18 = .ok (.getfield 68, 3) := by decide +kernel
theorem dX11_goesOn_21 : decode cX11_goesOn 21 = .ok (.iload_n 3, 1) := by decide +kernel
theorem dX11_goesOn_22 : decode cX11_goesOn 22 = .ok (.baload, 1) := by decide +kernel
theorem dX11_goesOn_23 : decode cX11_goesOn 23 = .ok (.ifCond .eq 24, 3) := by decide +kernel
theorem dX11_goesOn_26 : decode cX11_goesOn 26 = .ok (.aload_n 0, 1) := by decide +kernel
theorem dX11_goesOn_27 : decode cX11_goesOn 27 = .ok (.getfield 44, 3) := by decide +kernel
theorem dX11_goesOn_30 : decode cX11_goesOn 30 = .ok (.iload_n 3, 1) := by decide +kernel
theorem dX11_goesOn_31 : decode cX11_goesOn 31 = .ok (.iaload, 1) := by decide +kernel
theorem dX11_goesOn_32 : decode cX11_goesOn 32 = .ok (.aload_n 0, 1) := by decide +kernel
theorem dX11_goesOn_33 : decode cX11_goesOn 33 = .ok (.getfield 44, 3) := by decide +kernel
theorem dX11_goesOn_36 : decode cX11_goesOn 36 = .ok (.iload_n 2, 1) := by decide +kernel
theorem dX11_goesOn_37 : decode cX11_goesOn 37 = .ok (.iaload, 1) := by decide +kernel
theorem dX11_goesOn_38 : decode cX11_goesOn 38 = .ok (.iconst 1, 1) := by decide +kernel
theorem dX11_goesOn_39 : decode cX11_goesOn 39 = .ok (.iadd, 1) := by decide +kernel
theorem dX11_goesOn_40 : decode cX11_goesOn 40 = .ok (.if_icmp .ne 7, 3) := by decide +kernel
theorem dX11_goesOn_43 : decode cX11_goesOn 43 = .ok (.iconst 1, 1) := by decide +kernel
theorem dX11_goesOn_44 : decode cX11_goesOn 44 = .ok (.goto 4, 3) := by decide +kernel
theorem dX11_goesOn_47 : decode cX11_goesOn 47 = .ok (.iconst 0, 1) := by decide +kernel
theorem dX11_goesOn_48 : decode cX11_goesOn 48 = .ok (.ireturn, 1) := by decide +kernel
theorem dX11_row_0 : decode cX11_row 0 = .ok (.aload_n 0, 1) := by decide +kernel
theorem dX11_row_1 : decode cX11_row 1 = .ok (.iload_n 1, 1) := by decide +kernel
theorem dX11_row_2 : decode cX11_row 2 = .ok (.invokevirtual 250, 3) := by decide +kernel
theorem dX11_row_5 : decode cX11_row 5 = .ok (.ifCond .ne 6, 3) := by decide +kernel
theorem dX11_row_8 : decode cX11_row 8 = .ok (.ldc 214, 2) := by decide +kernel
theorem dX11_row_10 : decode cX11_row 10 = .ok (.ireturn, 1) := by decide +kernel
theorem dX11_row_11 : decode cX11_row 11 = .ok (.iload_n 2, 1) := by decide +kernel
theorem dX11_row_12 : decode cX11_row 12 = .ok (.ifCond .ge 6, 3) := by decide +kernel
theorem dX11_row_15 : decode cX11_row 15 = .ok (.ldc 131, 2) := by decide +kernel
theorem dX11_row_17 : decode cX11_row 17 = .ok (.ireturn, 1) := by decide +kernel
theorem dX11_row_18 : decode cX11_row 18 = .ok (.aload_n 0, 1) := by decide +kernel
theorem dX11_row_19 : decode cX11_row 19 = .ok (.invokevirtual 255, 3) := by decide +kernel
theorem dX11_row_22 : decode cX11_row 22 = .ok (.pop, 1) := by decide +kernel
theorem dX11_row_23 : decode cX11_row 23 = .ok (.aload_n 0, 1) := by decide +kernel
theorem dX11_row_24 : decode cX11_row 24 = .ok (.iload_n 1, 1) := by decide +kernel
theorem dX11_row_25 : decode cX11_row 25 = .ok (.invokevirtual 271, 3) := by decide +kernel
theorem dX11_row_28 : decode cX11_row 28 = .ok (.istore_n 3, 1) := by decide +kernel
theorem dX11_row_29 : decode cX11_row 29 = .ok (.iload_n 2, 1) := by decide +kernel
theorem dX11_row_30 : decode cX11_row 30 = .ok (.iload_n 3, 1) := by decide +kernel
theorem dX11_row_31 : decode cX11_row 31 = .ok (.if_icmp .lt 5, 3) := by decide +kernel
theorem dX11_row_34 : decode cX11_row 34 = .ok (.iconst (-1), 1) := by decide +kernel
theorem dX11_row_35 : decode cX11_row 35 = .ok (.ireturn, 1) := by decide +kernel
theorem dX11_row_36 : decode cX11_row 36 = .ok (.aload_n 0, 1) := by decide +kernel
theorem dX11_row_37 : decode cX11_row 37 = .ok (.iload_n 1, 1) := by decide +kernel
theorem dX11_row_38 : decode cX11_row 38 = .ok (.iload_n 3, 1) := by decide +kernel
theorem dX11_row_39 : decode cX11_row 39 = .ok (.invokevirtual 277, 3) := by decide +kernel
theorem dX11_row_42 : decode cX11_row 42 = .ok (.aload_n 0, 1) := by decide +kernel
theorem dX11_row_43 : decode cX11_row 43 = .ok (.invokevirtual 118, 3) := by decide +kernel
theorem dX11_row_46 : decode cX11_row 46 = .ok (.istore 4, 2) := by decide +kernel
theorem dX11_row_48 : decode cX11_row 48 = .ok (.iconst (-1), 1) := by decide +kernel
theorem dX11_row_49 : decode cX11_row 49 = .ok (.istore 5, 2) := by decide +kernel
theorem dX11_row_51 : decode cX11_row 51 = .ok (.iconst 0, 1) := by decide +kernel
theorem dX11_row_52 : decode cX11_row 52 = .ok (.istore 6, 2) := by decide +kernel
theorem dX11_row_54 : decode cX11_row 54 = .ok (.iload 6, 2) := by decide +kernel
theorem dX11_row_56 : decode cX11_row 56 = .ok (.iload_n 2, 1) := by decide +kernel
theorem dX11_row_57 : decode cX11_row 57 = .ok (.if_icmp .gt 39, 3) := by decide +kernel
theorem dX11_row_60 : decode cX11_row 60 = .ok (.iconst 0, 1) := by decide +kernel
theorem dX11_row_61 : decode cX11_row 61 = .ok (.istore 5, 2) := by decide +kernel
theorem dX11_row_63 : decode cX11_row 63 = .ok (.aload_n 0, 1) := by decide +kernel
theorem dX11_row_64 : decode cX11_row 64 = .ok (.iload 5, 2) := by decide +kernel
theorem dX11_row_66 : decode cX11_row 66 = .ok (.iload 4, 2) := by decide +kernel
theorem dX11_row_68 : decode cX11_row 68 = .ok (.invokevirtual 274, 3) := by decide +kernel
theorem dX11_row_71 : decode cX11_row 71 = .ok (.ifCond .ne 9, 3) := by decide +kernel
theorem dX11_row_74 : decode cX11_row 74 = .ok (.iinc 5 1, 3) := by decide +kernel
theorem dX11_row_77 : decode cX11_row 77 = .ok (.goto (-14), 3) := by decide +kernel
theorem dX11_row_80 : decode cX11_row 80 = .ok (.aload_n 0, 1) := by decide +kernel
theorem dX11_row_81 : decode cX11_row 81 = .ok (.iload 5, 2) := by decide +kernel
theorem dX11_row_83 : decode cX11_row 83 = .ok (.iload 4, 2) := by decide +kernel
theorem dX11_row_85 : decode cX11_row 85 = .ok (.invokevirtual 108, 3) := by decide +kernel
theorem dX11_row_88 : decode cX11_row 88 = .ok (.istore 4, 2) := by decide +kernel
theorem dX11_row_90 : decode cX11_row 90 = .ok (.iinc 6 1, 3) := by decide +kernel
theorem dX11_row_93 : decode cX11_row 93 = .ok (.goto (-39), 3) := by decide +kernel
theorem dX11_row_96 : decode cX11_row 96 = .ok (.iload 5, 2) := by decide +kernel
theorem dX11_row_98 : decode cX11_row 98 = .ok (.ireturn, 1) := by decide +kernel
theorem dX11_needs_0 : decode cX11_needs 0 = .ok (.aload_n 0, 1) := by decide +kernel
theorem dX11_needs_1 : decode cX11_needs 1 = .ok (.iload_n 1, 1) := by decide +kernel
theorem dX11_needs_2 : decode cX11_needs 2 = .ok (.invokevirtual 250, 3) := by decide +kernel
theorem dX11_needs_5 : decode cX11_needs 5 = .ok (.ifCond .ne 6, 3) := by decide +kernel
theorem dX11_needs_8 : decode cX11_needs 8 = .ok (.ldc 214, 2) := by decide +kernel
theorem dX11_needs_10 : decode cX11_needs 10 = .ok (.ireturn, 1) := by decide +kernel
theorem dX11_needs_11 : decode cX11_needs 11 = .ok (.aload_n 0, 1) := by decide +kernel
theorem dX11_needs_12 : decode cX11_needs 12 = .ok (.invokevirtual 255, 3) := by decide +kernel
theorem dX11_needs_15 : decode cX11_needs 15 = .ok (.pop, 1) := by decide +kernel
theorem dX11_needs_16 : decode cX11_needs 16 = .ok (.aload_n 0, 1) := by decide +kernel
theorem dX11_needs_17 : decode cX11_needs 17 = .ok (.iload_n 1, 1) := by decide +kernel
theorem dX11_needs_18 : decode cX11_needs 18 = .ok (.invokevirtual 271, 3) := by decide +kernel
theorem dX11_needs_21 : decode cX11_needs 21 = .ok (.ifCond .ge 5, 3) := by decide +kernel
theorem dX11_needs_24 : decode cX11_needs 24 = .ok (.iconst (-1), 1) := by decide +kernel
theorem dX11_needs_25 : decode cX11_needs 25 = .ok (.ireturn, 1) := by decide +kernel
theorem dX11_needs_26 : decode cX11_needs 26 = .ok (.iconst 0, 1) := by decide +kernel
theorem dX11_needs_27 : decode cX11_needs 27 = .ok (.istore_n 2, 1) := by decide +kernel
theorem dX11_needs_28 : decode cX11_needs 28 = .ok (.iconst 0, 1) := by decide +kernel
theorem dX11_needs_29 : decode cX11_needs 29 = .ok (.istore_n 3, 1) := by decide +kernel
theorem dX11_needs_30 : decode cX11_needs 30 = .ok (.iload_n 3, 1) := by decide +kernel
theorem dX11_needs_31 : decode cX11_needs 31 = .ok (.bipush 6, 2) := by decide +kernel
theorem dX11_needs_33 : decode cX11_needs 33 = .ok (.if_icmp .ge 50, 3) := by decide +kernel
theorem dX11_needs_36 : decode cX11_needs 36 = .ok (.aload_n 0, 1) := by decide +kernel
theorem dX11_needs_37 : decode cX11_needs 37 = .ok (.aload_n 0, 1) := by decide +kernel
theorem dX11_needs_38 : decode cX11_needs 38 = .ok (.invokevirtual 118, 3) := by decide +kernel
theorem dX11_needs_41 : decode cX11_needs 41 = .ok (.iconst (-1), 1) := by decide +kernel
theorem dX11_needs_42 : decode cX11_needs 42 = .ok (.iload_n 3, 1) := by decide +kernel
theorem dX11_needs_43 : decode cX11_needs 43 = .ok (.iconst (-1), 1) := by decide +kernel
theorem dX11_needs_44 : decode cX11_needs 44 = .ok (.invokevirtual 122, 3) := by decide +kernel
theorem dX11_needs_47 : decode cX11_needs 47 = .ok (.pop, 1) := by decide +kernel
theorem dX11_needs_48 : decode cX11_needs 48 = .ok (.iload_n 2, 1) := by decide +kernel
theorem dX11_needs_49 : decode cX11_needs 49 = .ok (.aload_n 0, 1) := by decide +kernel
theorem dX11_needs_50 : decode cX11_needs 50 = .ok (.getfield 115, 3) := by decide +kernel
theorem dX11_needs_53 : decode cX11_needs 53 = .ok (.iload_n 3, 1) := by decide +kernel
theorem dX11_needs_54 : decode cX11_needs 54 = .ok (.invokestatic 94, 3) := by decide +kernel
theorem dX11_needs_57 : decode cX11_needs 57 = .ok (.ifCond .ne 17, 3) := by decide +kernel
theorem dX11_needs_60 : decode cX11_needs 60 = .ok (.aload_n 0, 1) := by decide +kernel
theorem dX11_needs_61 : decode cX11_needs 61 = .ok (.iload_n 1, 1) := by decide +kernel
theorem dX11_needs_62 : decode cX11_needs 62 = .ok (.invokevirtual 271, 3) := by decide +kernel
theorem dX11_needs_65 : decode cX11_needs 65 = .ok (.ifCond .ge 9, 3) := by decide +kernel
theorem dX11_needs_68 : decode cX11_needs 68 = .ok (.iconst 1, 1) := by decide +kernel
theorem dX11_needs_69 : decode cX11_needs 69 = .ok (.iload_n 3, 1) := by decide +kernel
theorem dX11_needs_70 : decode cX11_needs 70 = .ok (.ishl, 1) := by decide +kernel
theorem dX11_needs_71 : decode cX11_needs 71 = .ok (.goto 4, 3) := by decide +kernel
theorem dX11_needs_74 : decode cX11_needs 74 = .ok (.iconst 0, 1) := by decide +kernel
theorem dX11_needs_75 : decode cX11_needs 75 = .ok (.ior, 1) := by decide +kernel
theorem dX11_needs_76 : decode cX11_needs 76 = .ok (.istore_n 2, 1) := by decide +kernel
theorem dX11_needs_77 : decode cX11_needs 77 = .ok (.iinc 3 1, 3) := by decide +kernel
theorem dX11_needs_80 : decode cX11_needs 80 = .ok (.goto (-50), 3) := by decide +kernel
theorem dX11_needs_83 : decode cX11_needs 83 = .ok (.iload_n 2, 1) := by decide +kernel
theorem dX11_needs_84 : decode cX11_needs 84 = .ok (.ireturn, 1) := by decide +kernel
theorem dX11_must_0 : decode cX11_must 0 = .ok (.aload_n 0, 1) := by decide +kernel
theorem dX11_must_1 : decode cX11_must 1 = .ok (.iload_n 1, 1) := by decide +kernel
theorem dX11_must_2 : decode cX11_must 2 = .ok (.invokevirtual 250, 3) := by decide +kernel
theorem dX11_must_5 : decode cX11_must 5 = .ok (.ifCond .ne 6, 3) := by decide +kernel
theorem dX11_must_8 : decode cX11_must 8 = .ok (.ldc 214, 2) := by decide +kernel
theorem dX11_must_10 : decode cX11_must 10 = .ok (.ireturn, 1) := by decide +kernel
theorem dX11_must_11 : decode cX11_must 11 = .ok (.iload_n 2, 1) := by decide +kernel
theorem dX11_must_12 : decode cX11_must 12 = .ok (.ifCond .ge 6, 3) := by decide +kernel
theorem dX11_must_15 : decode cX11_must 15 = .ok (.ldc 131, 2) := by decide +kernel
theorem dX11_must_17 : decode cX11_must 17 = .ok (.ireturn, 1) := by decide +kernel
theorem dX11_must_18 : decode cX11_must 18 = .ok (.aload_n 0, 1) := by decide +kernel
theorem dX11_must_19 : decode cX11_must 19 = .ok (.invokevirtual 255, 3) := by decide +kernel
theorem dX11_must_22 : decode cX11_must 22 = .ok (.pop, 1) := by decide +kernel
theorem dX11_must_23 : decode cX11_must 23 = .ok (.aload_n 0, 1) := by decide +kernel
theorem dX11_must_24 : decode cX11_must 24 = .ok (.iload_n 1, 1) := by decide +kernel
theorem dX11_must_25 : decode cX11_must 25 = .ok (.invokevirtual 271, 3) := by decide +kernel
theorem dX11_must_28 : decode cX11_must 28 = .ok (.ifCond .ge 5, 3) := by decide +kernel
theorem dX11_must_31 : decode cX11_must 31 = .ok (.iconst (-1), 1) := by decide +kernel
theorem dX11_must_32 : decode cX11_must 32 = .ok (.ireturn, 1) := by decide +kernel
theorem dX11_must_33 : decode cX11_must 33 = .ok (.iload_n 2, 1) := by decide +kernel
theorem dX11_must_34 : decode cX11_must 34 = .ok (.istore_n 3, 1) := by decide +kernel
theorem dX11_must_35 : decode cX11_must 35 = .ok (.iconst 0, 1) := by decide +kernel
theorem dX11_must_36 : decode cX11_must 36 = .ok (.istore 4, 2) := by decide +kernel
theorem dX11_must_38 : decode cX11_must 38 = .ok (.iload 4, 2) := by decide +kernel
theorem dX11_must_40 : decode cX11_must 40 = .ok (.aload_n 0, 1) := by decide +kernel
theorem dX11_must_41 : decode cX11_must 41 = .ok (.getfield 85, 3) := by decide +kernel
theorem dX11_must_44 : decode cX11_must 44 = .ok (.if_icmp .ge 40, 3) := by decide +kernel
theorem dX11_must_47 : decode cX11_must 47 = .ok (.aload_n 0, 1) := by decide +kernel
theorem dX11_must_48 : decode cX11_must 48 = .ok (.aload_n 0, 1) := by decide +kernel
theorem dX11_must_49 : decode cX11_must 49 = .ok (.invokevirtual 118, 3) := by decide +kernel
theorem dX11_must_52 : decode cX11_must 52 = .ok (.iload 4, 2) := by decide +kernel
theorem dX11_must_54 : decode cX11_must 54 = .ok (.iconst (-1), 1) := by decide +kernel
theorem dX11_must_55 : decode cX11_must 55 = .ok (.iconst (-1), 1) := by decide +kernel
theorem dX11_must_56 : decode cX11_must 56 = .ok (.invokevirtual 122, 3) := by decide +kernel
theorem dX11_must_59 : decode cX11_must 59 = .ok (.pop, 1) := by decide +kernel
theorem dX11_must_60 : decode cX11_must 60 = .ok (.aload_n 0, 1) := by decide +kernel
theorem dX11_must_61 : decode cX11_must 61 = .ok (.iload_n 1, 1) := by decide +kernel
theorem dX11_must_62 : decode cX11_must 62 = .ok (.invokevirtual 271, 3) := by decide +kernel
theorem dX11_must_65 : decode cX11_must 65 = .ok (.ifCond .ge 13, 3) := by decide +kernel
theorem dX11_must_68 : decode cX11_must 68 = .ok (.iload_n 3, 1) := by decide +kernel
theorem dX11_must_69 : decode cX11_must 69 = .ok (.ifCond .ne 6, 3) := by decide +kernel
theorem dX11_must_72 : decode cX11_must 72 = .ok (.iload 4, 2) := by decide +kernel
theorem dX11_must_74 : decode cX11_must 74 = .ok (.ireturn, 1) := by decide +kernel
theorem dX11_must_75 : decode cX11_must 75 = .ok (.iinc 3 (-1), 3) := by decide +kernel
theorem dX11_must_78 : decode cX11_must 78 = .ok (.iinc 4 1, 3) := by decide +kernel
theorem dX11_must_81 : decode cX11_must 81 = .ok (.goto (-43), 3) := by decide +kernel
theorem dX11_must_84 : decode cX11_must 84 = .ok (.iconst (-1), 1) := by decide +kernel
theorem dX11_must_85 : decode cX11_must 85 = .ok (.ireturn, 1) := by decide +kernel
theorem dX11_laysReached_0 : decode cX11_laysReached 0 = .ok (.aload_n 0, 1) := by decide +kernel
theorem dX11_laysReached_1 : decode cX11_laysReached 1 = .ok (.invokevirtual 255, 3) := by decide +kernel
theorem dX11_laysReached_4 : decode cX11_laysReached 4 = .ok (.pop, 1) := by decide +kernel
theorem dX11_laysReached_5 : decode cX11_laysReached 5 = .ok (.iconst 0, 1) := by decide +kernel
theorem dX11_laysReached_6 : decode cX11_laysReached 6 = .ok (.istore_n 1, 1) := by decide +kernel
theorem dX11_laysReached_7 : decode cX11_laysReached 7 = .ok (.iload_n 1, 1) := by decide +kernel
theorem dX11_laysReached_8 : decode cX11_laysReached 8 = .ok (.sipush 1024, 3) := by decide +kernel
theorem dX11_laysReached_11 : decode cX11_laysReached 11 = .ok (.if_icmp .ge 29, 3) := by decide +kernel
theorem dX11_laysReached_14 : decode cX11_laysReached 14 = .ok (.aload_n 0, 1) := by decide +kernel
theorem dX11_laysReached_15 : decode cX11_laysReached 15 = .ok (.getfield 71, 3) := by decide +kernel
theorem dX11_laysReached_18 : decode cX11_laysReached 18 = .ok (.iload_n 1, 1) := by decide +kernel
theorem dX11_laysReached_19 : decode cX11_laysReached 19 = .ok (.aload_n 0, 1) := by decide +kernel
theorem dX11_laysReached_20 : decode cX11_laysReached 20 = .ok (.getfield 44, 3) := by decide +kernel
theorem dX11_laysReached_23 : decode cX11_laysReached 23 = .ok (.iload_n 1, 1) := by decide +kernel
theorem dX11_laysReached_24 : decode cX11_laysReached 24 = .ok (.iaload, 1) := by decide +kernel
theorem dX11_laysReached_25 : decode cX11_laysReached 25 = .ok (.ifCond .lt 7, 3) := by decide +kernel
theorem dX11_laysReached_28 : decode cX11_laysReached 28 = .ok (.iconst 1, 1) := by decide +kernel
theorem dX11_laysReached_29 : decode cX11_laysReached 29 = .ok (.goto 4, 3) := by decide +kernel
theorem dX11_laysReached_32 : decode cX11_laysReached 32 = .ok (.iconst 0, 1) := by decide +kernel
theorem dX11_laysReached_33 : decode cX11_laysReached 33 = .ok (.bastore, 1) := by decide +kernel
theorem dX11_laysReached_34 : decode cX11_laysReached 34 = .ok (.iinc 1 1, 3) := by decide +kernel
theorem dX11_laysReached_37 : decode cX11_laysReached 37 = .ok (.goto (-30), 3) := by decide +kernel
theorem dX11_laysReached_40 : decode cX11_laysReached 40 = .ok (.return_, 1) := by decide +kernel
theorem dX11_loopOf_0 : decode cX11_loopOf 0 = .ok (.aload_n 0, 1) := by decide +kernel
theorem dX11_loopOf_1 : decode cX11_loopOf 1 = .ok (.iload_n 1, 1) := by decide +kernel
theorem dX11_loopOf_2 : decode cX11_loopOf 2 = .ok (.iconst (-1), 1) := by decide +kernel
theorem dX11_loopOf_3 : decode cX11_loopOf 3 = .ok (.iconst (-1), 1) := by decide +kernel
theorem dX11_loopOf_4 : decode cX11_loopOf 4 = .ok (.iconst (-1), 1) := by decide +kernel
theorem dX11_loopOf_5 : decode cX11_loopOf 5 = .ok (.invokevirtual 122, 3) := by decide +kernel
theorem dX11_loopOf_8 : decode cX11_loopOf 8 = .ok (.pop, 1) := by decide +kernel
theorem dX11_loopOf_9 : decode cX11_loopOf 9 = .ok (.iconst (-1), 1) := by decide +kernel
theorem dX11_loopOf_10 : decode cX11_loopOf 10 = .ok (.istore_n 2, 1) := by decide +kernel
theorem dX11_loopOf_11 : decode cX11_loopOf 11 = .ok (.iconst 0, 1) := by decide +kernel
theorem dX11_loopOf_12 : decode cX11_loopOf 12 = .ok (.istore_n 3, 1) := by decide +kernel
theorem dX11_loopOf_13 : decode cX11_loopOf 13 = .ok (.iload_n 3, 1) := by decide +kernel
theorem dX11_loopOf_14 : decode cX11_loopOf 14 = .ok (.sipush 1024, 3) := by decide +kernel
theorem dX11_loopOf_17 : decode cX11_loopOf 17 = .ok (.if_icmp .ge 99, 3) := by decide +kernel
theorem dX11_loopOf_20 : decode cX11_loopOf 20 = .ok (.iconst 0, 1) := by decide +kernel
theorem dX11_loopOf_21 : decode cX11_loopOf 21 = .ok (.istore 4, 2) := by decide +kernel
theorem dX11_loopOf_23 : decode cX11_loopOf 23 = .ok (.iload 4, 2) := by decide +kernel
theorem dX11_loopOf_25 : decode cX11_loopOf 25 = .ok (.aload_n 0, 1) := by decide +kernel
theorem dX11_loopOf_26 : decode cX11_loopOf 26 = .ok (.getfield 85, 3) := by decide +kernel
theorem dX11_loopOf_29 : decode cX11_loopOf 29 = .ok (.if_icmp .ge 81, 3) := by decide +kernel
theorem dX11_loopOf_32 : decode cX11_loopOf 32 = .ok (.aload_n 0, 1) := by decide +kernel
theorem dX11_loopOf_33 : decode cX11_loopOf 33 = .ok (.getfield 44, 3) := by decide +kernel
theorem dX11_loopOf_36 : decode cX11_loopOf 36 = .ok (.iload_n 3, 1) := by decide +kernel
theorem dX11_loopOf_37 : decode cX11_loopOf 37 = .ok (.iaload, 1) := by decide +kernel
theorem dX11_loopOf_38 : decode cX11_loopOf 38 = .ok (.ifCond .lt 72, 3) := by decide +kernel
theorem dX11_loopOf_41 : decode cX11_loopOf 41 = .ok (.aload_n 0, 1) := by decide +kernel
theorem dX11_loopOf_42 : decode cX11_loopOf 42 = .ok (.iload 4, 2) := by decide +kernel
theorem dX11_loopOf_44 : decode cX11_loopOf 44 = .ok (.iload_n 3, 1) := by decide +kernel
theorem dX11_loopOf_45 : decode cX11_loopOf 45 = .ok (.iconst (-1), 1) := by decide +kernel
theorem dX11_loopOf_46 : decode cX11_loopOf 46 = .ok (.invokevirtual 105, 3) := by decide +kernel
theorem dX11_loopOf_49 : decode cX11_loopOf 49 = .ok (.ifCond .eq 34, 3) := by decide +kernel
theorem dX11_loopOf_52 : decode cX11_loopOf 52 = .ok (.aload_n 0, 1) := by decide +kernel
theorem dX11_loopOf_53 : decode cX11_loopOf 53 = .ok (.iload 4, 2) := by decide +kernel
theorem dX11_loopOf_55 : decode cX11_loopOf 55 = .ok (.iload_n 3, 1) := by decide +kernel
theorem dX11_loopOf_56 : decode cX11_loopOf 56 = .ok (.invokevirtual 108, 3) := by decide +kernel
theorem dX11_loopOf_59 : decode cX11_loopOf 59 = .ok (.iload_n 1, 1) := by decide +kernel
theorem dX11_loopOf_60 : decode cX11_loopOf 60 = .ok (.if_icmp .ne 23, 3) := by decide +kernel
theorem dX11_loopOf_63 : decode cX11_loopOf 63 = .ok (.iload_n 2, 1) := by decide +kernel
theorem dX11_loopOf_64 : decode cX11_loopOf 64 = .ok (.ifCond .lt 15, 3) := by decide +kernel
theorem dX11_loopOf_67 : decode cX11_loopOf 67 = .ok (.aload_n 0, 1) := by decide +kernel
theorem dX11_loopOf_68 : decode cX11_loopOf 68 = .ok (.getfield 44, 3) := by decide +kernel
theorem dX11_loopOf_71 : decode cX11_loopOf 71 = .ok (.iload_n 3, 1) := by decide +kernel
theorem dX11_loopOf_72 : decode cX11_loopOf 72 = .ok (.iaload, 1) := by decide +kernel
theorem dX11_loopOf_73 : decode cX11_loopOf 73 = .ok (.iconst 1, 1) := by decide +kernel
theorem dX11_loopOf_74 : decode cX11_loopOf 74 = .ok (.iadd, 1) := by decide +kernel
theorem dX11_loopOf_75 : decode cX11_loopOf 75 = .ok (.iload_n 2, 1) := by decide +kernel
theorem dX11_loopOf_76 : decode cX11_loopOf 76 = .ok (.if_icmp .ge 7, 3) := by decide +kernel
theorem dX11_loopOf_79 : decode cX11_loopOf 79 = .ok (.iconst 1, 1) := by decide +kernel
theorem dX11_loopOf_80 : decode cX11_loopOf 80 = .ok (.goto 4, 3) := by decide +kernel
theorem dX11_loopOf_83 : decode cX11_loopOf 83 = .ok (.iconst 0, 1) := by decide +kernel
theorem dX11_loopOf_84 : decode cX11_loopOf 84 = .ok (.istore 5, 2) := by decide +kernel
theorem dX11_loopOf_86 : decode cX11_loopOf 86 = .ok (.iload 5, 2) := by decide +kernel
theorem dX11_loopOf_88 : decode cX11_loopOf 88 = .ok (.ifCond .eq 14, 3) := by decide +kernel
theorem dX11_loopOf_91 : decode cX11_loopOf 91 = .ok (.aload_n 0, 1) := by decide +kernel
theorem dX11_loopOf_92 : decode cX11_loopOf 92 = .ok (.getfield 44, 3) := by decide +kernel
theorem dX11_loopOf_95 : decode cX11_loopOf 95 = .ok (.iload_n 3, 1) := by decide +kernel
theorem dX11_loopOf_96 : decode cX11_loopOf 96 = .ok (.iaload, 1) := by decide +kernel
theorem dX11_loopOf_97 : decode cX11_loopOf 97 = .ok (.iconst 1, 1) := by decide +kernel
theorem dX11_loopOf_98 : decode cX11_loopOf 98 = .ok (.iadd, 1) := by decide +kernel
theorem dX11_loopOf_99 : decode cX11_loopOf 99 = .ok (.goto 4, 3) := by decide +kernel
theorem dX11_loopOf_102 : decode cX11_loopOf 102 = .ok (.iload_n 2, 1) := by decide +kernel
theorem dX11_loopOf_103 : decode cX11_loopOf 103 = .ok (.istore_n 2, 1) := by decide +kernel
theorem dX11_loopOf_104 : decode cX11_loopOf 104 = .ok (.iinc 4 1, 3) := by decide +kernel
theorem dX11_loopOf_107 : decode cX11_loopOf 107 = .ok (.goto (-84), 3) := by decide +kernel
theorem dX11_loopOf_110 : decode cX11_loopOf 110 = .ok (.iinc 3 1, 3) := by decide +kernel
theorem dX11_loopOf_113 : decode cX11_loopOf 113 = .ok (.goto (-100), 3) := by decide +kernel
theorem dX11_loopOf_116 : decode cX11_loopOf 116 = .ok (.iload_n 2, 1) := by decide +kernel
theorem dX11_loopOf_117 : decode cX11_loopOf 117 = .ok (.ireturn, 1) := by decide +kernel
theorem dX11_loopOfLine_0 : decode cX11_loopOfLine 0 = .ok (.iconst (-1), 1) := by decide +kernel
theorem dX11_loopOfLine_1 : decode cX11_loopOfLine 1 = .ok (.istore_n 2, 1) := by decide +kernel
theorem dX11_loopOfLine_2 : decode cX11_loopOfLine 2 = .ok (.bipush 64, 2) := by decide +kernel
theorem dX11_loopOfLine_4 : decode cX11_loopOfLine 4 = .ok (.iload_n 1, 1) := by decide +kernel
theorem dX11_loopOfLine_5 : decode cX11_loopOfLine 5 = .ok (.imul, 1) := by decide +kernel
theorem dX11_loopOfLine_6 : decode cX11_loopOfLine 6 = .ok (.istore_n 3, 1) := by decide +kernel
theorem dX11_loopOfLine_7 : decode cX11_loopOfLine 7 = .ok (.iload_n 3, 1) := by decide +kernel
theorem dX11_loopOfLine_8 : decode cX11_loopOfLine 8 = .ok (.bipush 64, 2) := by decide +kernel
theorem dX11_loopOfLine_10 : decode cX11_loopOfLine 10 = .ok (.iload_n 1, 1) := by decide +kernel
theorem dX11_loopOfLine_11 : decode cX11_loopOfLine 11 = .ok (.imul, 1) := by decide +kernel
theorem dX11_loopOfLine_12 : decode cX11_loopOfLine 12 = .ok (.bipush 64, 2) := by decide +kernel
theorem dX11_loopOfLine_14 : decode cX11_loopOfLine 14 = .ok (.iadd, 1) := by decide +kernel
theorem dX11_loopOfLine_15 : decode cX11_loopOfLine 15 = .ok (.if_icmp .ge 51, 3) := by decide +kernel
theorem dX11_loopOfLine_18 : decode cX11_loopOfLine 18 = .ok (.aload_n 0, 1) := by decide +kernel
theorem dX11_loopOfLine_19 : decode cX11_loopOfLine 19 = .ok (.getfield 71, 3) := by decide +kernel
theorem dX11_loopOfLine_22 : decode cX11_loopOfLine 22 = .ok (.iload_n 3, 1) := by decide +kernel
theorem dX11_loopOfLine_23 : decode cX11_loopOfLine 23 = .ok (.baload, 1) := by decide +kernel
theorem dX11_loopOfLine_24 : decode cX11_loopOfLine 24 = .ok (.ifCond .eq 11, 3) := by decide +kernel
theorem dX11_loopOfLine_27 : decode cX11_loopOfLine 27 = .ok (.aload_n 0, 1) := by decide +kernel
theorem dX11_loopOfLine_28 : decode cX11_loopOfLine 28 = .ok (.iload_n 3, 1) := by decide +kernel
theorem dX11_loopOfLine_29 : decode cX11_loopOfLine 29 = .ok (.invokevirtual 281, 3) := by decide +kernel
theorem dX11_loopOfLine_32 : decode cX11_loopOfLine 32 = .ok (.goto 4, 3) := by decide +kernel
theorem dX11_loopOfLine_35 : decode cX11_loopOfLine 35 = .ok (.iconst (-1), 1) := by decide +kernel
theorem dX11_loopOfLine_36 : decode cX11_loopOfLine 36 = .ok (.istore 4, 2) := by decide +kernel
theorem dX11_loopOfLine_38 : decode cX11_loopOfLine 38 = .ok (.iload 4, 2) := by decide +kernel
theorem dX11_loopOfLine_40 : decode cX11_loopOfLine 40 = .ok (.ifCond .lt 18, 3) := by decide +kernel
theorem dX11_loopOfLine_43 : decode cX11_loopOfLine 43 = .ok (.iload_n 2, 1) := by decide +kernel
theorem dX11_loopOfLine_44 : decode cX11_loopOfLine 44 = .ok (.ifCond .lt 9, 3) := by decide +kernel
theorem dX11_loopOfLine_47 : decode cX11_loopOfLine 47 = .ok (.iload 4, 2) := by decide +kernel
theorem dX11_loopOfLine_49 : decode cX11_loopOfLine 49 = .ok (.iload_n 2, 1) := by decide +kernel
theorem dX11_loopOfLine_50 : decode cX11_loopOfLine 50 = .ok (.if_icmp .ge 8, 3) := by decide +kernel
theorem dX11_loopOfLine_53 : decode cX11_loopOfLine 53 = .ok (.iload 4, 2) := by decide +kernel
theorem dX11_loopOfLine_55 : decode cX11_loopOfLine 55 = .ok (.goto 4, 3) := by decide +kernel
theorem dX11_loopOfLine_58 : decode cX11_loopOfLine 58 = .ok (.iload_n 2, 1) := by decide +kernel
theorem dX11_loopOfLine_59 : decode cX11_loopOfLine 59 = .ok (.istore_n 2, 1) := by decide +kernel
theorem dX11_loopOfLine_60 : decode cX11_loopOfLine 60 = .ok (.iinc 3 1, 3) := by decide +kernel
theorem dX11_loopOfLine_63 : decode cX11_loopOfLine 63 = .ok (.goto (-56), 3) := by decide +kernel
theorem dX11_loopOfLine_66 : decode cX11_loopOfLine 66 = .ok (.iload_n 2, 1) := by decide +kernel
theorem dX11_loopOfLine_67 : decode cX11_loopOfLine 67 = .ok (.ireturn, 1) := by decide +kernel
theorem dX11_loop_0 : decode cX11_loop 0 = .ok (.aload_n 0, 1) := by decide +kernel
theorem dX11_loop_1 : decode cX11_loop 1 = .ok (.iload_n 1, 1) := by decide +kernel
theorem dX11_loop_2 : decode cX11_loop 2 = .ok (.invokevirtual 250, 3) := by decide +kernel
theorem dX11_loop_5 : decode cX11_loop 5 = .ok (.ifCond .ne 6, 3) := by decide +kernel
theorem dX11_loop_8 : decode cX11_loop 8 = .ok (.ldc 214, 2) := by decide +kernel
theorem dX11_loop_10 : decode cX11_loop 10 = .ok (.ireturn, 1) := by decide +kernel
theorem dX11_loop_11 : decode cX11_loop 11 = .ok (.aload_n 0, 1) := by decide +kernel
theorem dX11_loop_12 : decode cX11_loop 12 = .ok (.invokevirtual 284, 3) := by decide +kernel
theorem dX11_loop_15 : decode cX11_loop 15 = .ok (.aload_n 0, 1) := by decide +kernel
theorem dX11_loop_16 : decode cX11_loop 16 = .ok (.iload_n 1, 1) := by decide +kernel
theorem dX11_loop_17 : decode cX11_loop 17 = .ok (.invokevirtual 287, 3) := by decide +kernel
theorem dX11_loop_20 : decode cX11_loop 20 = .ok (.ireturn, 1) := by decide +kernel
theorem dX11_use_0 : decode cX11_use 0 = .ok (.aload_n 0, 1) := by decide +kernel
theorem dX11_use_1 : decode cX11_use 1 = .ok (.iload_n 1, 1) := by decide +kernel
theorem dX11_use_2 : decode cX11_use 2 = .ok (.invokevirtual 217, 3) := by decide +kernel
theorem dX11_use_5 : decode cX11_use 5 = .ok (.ifCond .ne 6, 3) := by decide +kernel
theorem dX11_use_8 : decode cX11_use 8 = .ok (.ldc 214, 2) := by decide +kernel
theorem dX11_use_10 : decode cX11_use 10 = .ok (.ireturn, 1) := by decide +kernel
theorem dX11_use_11 : decode cX11_use 11 = .ok (.aload_n 0, 1) := by decide +kernel
theorem dX11_use_12 : decode cX11_use 12 = .ok (.invokevirtual 255, 3) := by decide +kernel
theorem dX11_use_15 : decode cX11_use 15 = .ok (.pop, 1) := by decide +kernel
theorem dX11_use_16 : decode cX11_use 16 = .ok (.aload_n 0, 1) := by decide +kernel
theorem dX11_use_17 : decode cX11_use 17 = .ok (.aload_n 0, 1) := by decide +kernel
theorem dX11_use_18 : decode cX11_use 18 = .ok (.getfield 7, 3) := by decide +kernel
theorem dX11_use_21 : decode cX11_use 21 = .ok (.iload_n 1, 1) := by decide +kernel
theorem dX11_use_22 : decode cX11_use 22 = .ok (.iaload, 1) := by decide +kernel
theorem dX11_use_23 : decode cX11_use 23 = .ok (.iconst 0, 1) := by decide +kernel
theorem dX11_use_24 : decode cX11_use 24 = .ok (.invokevirtual 261, 3) := by decide +kernel
theorem dX11_use_27 : decode cX11_use 27 = .ok (.istore_n 2, 1) := by decide +kernel
theorem dX11_use_28 : decode cX11_use 28 = .ok (.iconst 0, 1) := by decide +kernel
theorem dX11_use_29 : decode cX11_use 29 = .ok (.istore_n 3, 1) := by decide +kernel
theorem dX11_use_30 : decode cX11_use 30 = .ok (.bipush 64, 2) := by decide +kernel
theorem dX11_use_32 : decode cX11_use 32 = .ok (.aload_n 0, 1) := by decide +kernel
theorem dX11_use_33 : decode cX11_use 33 = .ok (.getfield 7, 3) := by decide +kernel
theorem dX11_use_36 : decode cX11_use 36 = .ok (.iload_n 1, 1) := by decide +kernel
theorem dX11_use_37 : decode cX11_use 37 = .ok (.iaload, 1) := by decide +kernel
theorem dX11_use_38 : decode cX11_use 38 = .ok (.imul, 1) := by decide +kernel
theorem dX11_use_39 : decode cX11_use 39 = .ok (.istore 4, 2) := by decide +kernel
theorem dX11_use_41 : decode cX11_use 41 = .ok (.iload 4, 2) := by decide +kernel
theorem dX11_use_43 : decode cX11_use 43 = .ok (.bipush 64, 2) := by decide +kernel
theorem dX11_use_45 : decode cX11_use 45 = .ok (.aload_n 0, 1) := by decide +kernel
theorem dX11_use_46 : decode cX11_use 46 = .ok (.getfield 7, 3) := by decide +kernel
theorem dX11_use_49 : decode cX11_use 49 = .ok (.iload_n 1, 1) := by decide +kernel
theorem dX11_use_50 : decode cX11_use 50 = .ok (.iaload, 1) := by decide +kernel
theorem dX11_use_51 : decode cX11_use 51 = .ok (.imul, 1) := by decide +kernel
theorem dX11_use_52 : decode cX11_use 52 = .ok (.bipush 64, 2) := by decide +kernel
theorem dX11_use_54 : decode cX11_use 54 = .ok (.iadd, 1) := by decide +kernel
theorem dX11_use_55 : decode cX11_use 55 = .ok (.if_icmp .ge 38, 3) := by decide +kernel
theorem dX11_use_58 : decode cX11_use 58 = .ok (.iload_n 3, 1) := by decide +kernel
theorem dX11_use_59 : decode cX11_use 59 = .ok (.aload_n 0, 1) := by decide +kernel
theorem dX11_use_60 : decode cX11_use 60 = .ok (.getfield 44, 3) := by decide +kernel
theorem dX11_use_63 : decode cX11_use 63 = .ok (.iload 4, 2) := by decide +kernel
theorem dX11_use_65 : decode cX11_use 65 = .ok (.iaload, 1) := by decide +kernel
theorem dX11_use_66 : decode cX11_use 66 = .ok (.ifCond .lt 18, 3) := by decide +kernel
theorem dX11_use_69 : decode cX11_use 69 = .ok (.aload_n 0, 1) := by decide +kernel
theorem dX11_use_70 : decode cX11_use 70 = .ok (.iload_n 1, 1) := by decide +kernel
theorem dX11_use_71 : decode cX11_use 71 = .ok (.iload 4, 2) := by decide +kernel
theorem dX11_use_73 : decode cX11_use 73 = .ok (.iconst (-1), 1) := by decide +kernel
theorem dX11_use_74 : decode cX11_use 74 = .ok (.invokevirtual 105, 3) := by decide +kernel
theorem dX11_use_77 : decode cX11_use 77 = .ok (.ifCond .eq 7, 3) := by decide +kernel
theorem dX11_use_80 : decode cX11_use 80 = .ok (.iconst 1, 1) := by decide +kernel
theorem dX11_use_81 : decode cX11_use 81 = .ok (.goto 4, 3) := by decide +kernel
theorem dX11_use_84 : decode cX11_use 84 = .ok (.iconst 0, 1) := by decide +kernel
theorem dX11_use_85 : decode cX11_use 85 = .ok (.iadd, 1) := by decide +kernel
theorem dX11_use_86 : decode cX11_use 86 = .ok (.istore_n 3, 1) := by decide +kernel
theorem dX11_use_87 : decode cX11_use 87 = .ok (.iinc 4 1, 3) := by decide +kernel
theorem dX11_use_90 : decode cX11_use 90 = .ok (.goto (-49), 3) := by decide +kernel
theorem dX11_use_93 : decode cX11_use 93 = .ok (.iload_n 3, 1) := by decide +kernel
theorem dX11_use_94 : decode cX11_use 94 = .ok (.ifCond .ne 7, 3) := by decide +kernel
theorem dX11_use_97 : decode cX11_use 97 = .ok (.iconst 0, 1) := by decide +kernel
theorem dX11_use_98 : decode cX11_use 98 = .ok (.goto 13, 3) := by decide +kernel
theorem dX11_use_101 : decode cX11_use 101 = .ok (.iload_n 3, 1) := by decide +kernel
theorem dX11_use_102 : decode cX11_use 102 = .ok (.iload_n 2, 1) := by decide +kernel
theorem dX11_use_103 : decode cX11_use 103 = .ok (.if_icmp .ge 7, 3) := by decide +kernel
theorem dX11_use_106 : decode cX11_use 106 = .ok (.iconst 1, 1) := by decide +kernel
theorem dX11_use_107 : decode cX11_use 107 = .ok (.goto 4, 3) := by decide +kernel
theorem dX11_use_110 : decode cX11_use 110 = .ok (.iconst 2, 1) := by decide +kernel
theorem dX11_use_111 : decode cX11_use 111 = .ok (.ireturn, 1) := by decide +kernel
theorem dX11_isAskedFor_0 : decode cX11_isAskedFor 0 = .ok (.iconst 0, 1) := by decide +kernel
theorem dX11_isAskedFor_1 : decode cX11_isAskedFor 1 = .ok (.istore_n 3, 1) := by decide +kernel
theorem dX11_isAskedFor_2 : decode cX11_isAskedFor 2 = .ok (.iconst 0, 1) := by decide +kernel
theorem dX11_isAskedFor_3 : decode cX11_isAskedFor 3 = .ok (.istore 4, 2) := by decide +kernel
theorem dX11_isAskedFor_5 : decode cX11_isAskedFor 5 = .ok (.iload 4, 2) := by decide +kernel
theorem dX11_isAskedFor_7 : decode cX11_isAskedFor 7 = .ok (.aload_n 0, 1) := by decide +kernel
theorem dX11_isAskedFor_8 : decode cX11_isAskedFor 8 = .ok (.getfield 19, 3) := by decide +kernel
theorem dX11_isAskedFor_11 : decode cX11_isAskedFor 11 = .ok (.iload_n 1, 1) := by decide +kernel
theorem dX11_isAskedFor_12 : decode cX11_isAskedFor 12 = .ok (.iaload, 1) := by decide +kernel
theorem dX11_isAskedFor_13 : decode cX11_isAskedFor 13 = .ok (.if_icmp .ge 35, 3) := by decide +kernel
theorem dX11_isAskedFor_16 : decode cX11_isAskedFor 16 = .ok (.iload_n 3, 1) := by decide +kernel
theorem dX11_isAskedFor_17 : decode cX11_isAskedFor 17 = .ok (.aload_n 0, 1) := by decide +kernel
theorem dX11_isAskedFor_18 : decode cX11_isAskedFor 18 = .ok (.getfield 22, 3) := by decide +kernel
theorem dX11_isAskedFor_21 : decode cX11_isAskedFor 21 = .ok (.iconst 3, 1) := by decide +kernel
theorem dX11_isAskedFor_22 : decode cX11_isAskedFor 22 = .ok (.iload_n 1, 1) := by decide +kernel
theorem dX11_isAskedFor_23 : decode cX11_isAskedFor 23 = .ok (.imul, 1) := by decide +kernel
theorem dX11_isAskedFor_24 : decode cX11_isAskedFor 24 = .ok (.iload 4, 2) := by decide +kernel
theorem dX11_isAskedFor_26 : decode cX11_isAskedFor 26 = .ok (.iadd, 1) := by decide +kernel
theorem dX11_isAskedFor_27 : decode cX11_isAskedFor 27 = .ok (.iaload, 1) := by decide +kernel
theorem dX11_isAskedFor_28 : decode cX11_isAskedFor 28 = .ok (.aload_n 0, 1) := by decide +kernel
theorem dX11_isAskedFor_29 : decode cX11_isAskedFor 29 = .ok (.getfield 25, 3) := by decide +kernel
theorem dX11_isAskedFor_32 : decode cX11_isAskedFor 32 = .ok (.iconst 3, 1) := by decide +kernel
theorem dX11_isAskedFor_33 : decode cX11_isAskedFor 33 = .ok (.iload_n 1, 1) := by decide +kernel
theorem dX11_isAskedFor_34 : decode cX11_isAskedFor 34 = .ok (.imul, 1) := by decide +kernel
theorem dX11_isAskedFor_35 : decode cX11_isAskedFor 35 = .ok (.iload 4, 2) := by decide +kernel
theorem dX11_isAskedFor_37 : decode cX11_isAskedFor 37 = .ok (.iadd, 1) := by decide +kernel
theorem dX11_isAskedFor_38 : decode cX11_isAskedFor 38 = .ok (.iaload, 1) := by decide +kernel
theorem dX11_isAskedFor_39 : decode cX11_isAskedFor 39 = .ok (.ior, 1) := by decide +kernel
theorem dX11_isAskedFor_40 : decode cX11_isAskedFor 40 = .ok (.ior, 1) := by decide +kernel
theorem dX11_isAskedFor_41 : decode cX11_isAskedFor 41 = .ok (.istore_n 3, 1) := by decide +kernel
theorem dX11_isAskedFor_42 : decode cX11_isAskedFor 42 = .ok (.iinc 4 1, 3) := by decide +kernel
theorem dX11_isAskedFor_45 : decode cX11_isAskedFor 45 = .ok (.goto (-40), 3) := by decide +kernel
theorem dX11_isAskedFor_48 : decode cX11_isAskedFor 48 = .ok (.iload_n 3, 1) := by decide +kernel
theorem dX11_isAskedFor_49 : decode cX11_isAskedFor 49 = .ok (.iload_n 2, 1) := by decide +kernel
theorem dX11_isAskedFor_50 : decode cX11_isAskedFor 50 = .ok (.invokestatic 94, 3) := by decide +kernel
theorem dX11_isAskedFor_53 : decode cX11_isAskedFor 53 = .ok (.ireturn, 1) := by decide +kernel
theorem dX11_asked_0 : decode cX11_asked 0 = .ok (.iconst 0, 1) := by decide +kernel
theorem dX11_asked_1 : decode cX11_asked 1 = .ok (.istore_n 2, 1) := by decide +kernel
theorem dX11_asked_2 : decode cX11_asked 2 = .ok (.iconst 0, 1) := by decide +kernel
theorem dX11_asked_3 : decode cX11_asked 3 = .ok (.istore_n 3, 1) := by decide +kernel
theorem dX11_asked_4 : decode cX11_asked 4 = .ok (.iload_n 3, 1) := by decide +kernel
theorem dX11_asked_5 : decode cX11_asked 5 = .ok (.aload_n 0, 1) := by decide +kernel
theorem dX11_asked_6 : decode cX11_asked 6 = .ok (.getfield 85, 3) := by decide +kernel
theorem dX11_asked_9 : decode cX11_asked 9 = .ok (.if_icmp .ge 26, 3) := by decide +kernel
theorem dX11_asked_12 : decode cX11_asked 12 = .ok (.iload_n 2, 1) := by decide +kernel
theorem dX11_asked_13 : decode cX11_asked 13 = .ok (.aload_n 0, 1) := by decide +kernel
theorem dX11_asked_14 : decode cX11_asked 14 = .ok (.iload_n 3, 1) := by decide +kernel
theorem dX11_asked_15 : decode cX11_asked 15 = .ok (.iload_n 1, 1) := by decide +kernel
theorem dX11_asked_16 : decode cX11_asked 16 = .ok (.invokevirtual 290, 3) := by decide +kernel
theorem dX11_asked_19 : decode cX11_asked 19 = .ok (.ifCond .eq 7, 3) := by decide +kernel
theorem dX11_asked_22 : decode cX11_asked 22 = .ok (.iconst 1, 1) := by decide +kernel
theorem dX11_asked_23 : decode cX11_asked 23 = .ok (.goto 4, 3) := by decide +kernel
theorem dX11_asked_26 : decode cX11_asked 26 = .ok (.iconst 0, 1) := by decide +kernel
theorem dX11_asked_27 : decode cX11_asked 27 = .ok (.iadd, 1) := by decide +kernel
theorem dX11_asked_28 : decode cX11_asked 28 = .ok (.istore_n 2, 1) := by decide +kernel
theorem dX11_asked_29 : decode cX11_asked 29 = .ok (.iinc 3 1, 3) := by decide +kernel
theorem dX11_asked_32 : decode cX11_asked 32 = .ok (.goto (-28), 3) := by decide +kernel
theorem dX11_asked_35 : decode cX11_asked 35 = .ok (.iload_n 2, 1) := by decide +kernel
theorem dX11_asked_36 : decode cX11_asked 36 = .ok (.ireturn, 1) := by decide +kernel
theorem dX11_laid_0 : decode cX11_laid 0 = .ok (.iconst 0, 1) := by decide +kernel
theorem dX11_laid_1 : decode cX11_laid 1 = .ok (.istore_n 2, 1) := by decide +kernel
theorem dX11_laid_2 : decode cX11_laid 2 = .ok (.iconst 0, 1) := by decide +kernel
theorem dX11_laid_3 : decode cX11_laid 3 = .ok (.istore_n 3, 1) := by decide +kernel
theorem dX11_laid_4 : decode cX11_laid 4 = .ok (.iload_n 3, 1) := by decide +kernel
theorem dX11_laid_5 : decode cX11_laid 5 = .ok (.aload_n 0, 1) := by decide +kernel
theorem dX11_laid_6 : decode cX11_laid 6 = .ok (.getfield 85, 3) := by decide +kernel
theorem dX11_laid_9 : decode cX11_laid 9 = .ok (.if_icmp .ge 37, 3) := by decide +kernel
theorem dX11_laid_12 : decode cX11_laid 12 = .ok (.iload_n 2, 1) := by decide +kernel
theorem dX11_laid_13 : decode cX11_laid 13 = .ok (.aload_n 0, 1) := by decide +kernel
theorem dX11_laid_14 : decode cX11_laid 14 = .ok (.getfield 28, 3) := by decide +kernel
theorem dX11_laid_17 : decode cX11_laid 17 = .ok (.iload_n 3, 1) := by decide +kernel
theorem dX11_laid_18 : decode cX11_laid 18 = .ok (.iaload, 1) := by decide +kernel
theorem dX11_laid_19 : decode cX11_laid 19 = .ok (.aload_n 0, 1) := by decide +kernel
theorem dX11_laid_20 : decode cX11_laid 20 = .ok (.getfield 31, 3) := by decide +kernel
theorem dX11_laid_23 : decode cX11_laid 23 = .ok (.iload_n 3, 1) := by decide +kernel
theorem dX11_laid_24 : decode cX11_laid 24 = .ok (.iaload, 1) := by decide +kernel
theorem dX11_laid_25 : decode cX11_laid 25 = .ok (.ior, 1) := by decide +kernel
theorem dX11_laid_26 : decode cX11_laid 26 = .ok (.iload_n 1, 1) := by decide +kernel
theorem dX11_laid_27 : decode cX11_laid 27 = .ok (.invokestatic 94, 3) := by decide +kernel
theorem dX11_laid_30 : decode cX11_laid 30 = .ok (.ifCond .eq 7, 3) := by decide +kernel
theorem dX11_laid_33 : decode cX11_laid 33 = .ok (.iconst 1, 1) := by decide +kernel
theorem dX11_laid_34 : decode cX11_laid 34 = .ok (.goto 4, 3) := by decide +kernel
theorem dX11_laid_37 : decode cX11_laid 37 = .ok (.iconst 0, 1) := by decide +kernel
theorem dX11_laid_38 : decode cX11_laid 38 = .ok (.iadd, 1) := by decide +kernel
theorem dX11_laid_39 : decode cX11_laid 39 = .ok (.istore_n 2, 1) := by decide +kernel
theorem dX11_laid_40 : decode cX11_laid 40 = .ok (.iinc 3 1, 3) := by decide +kernel
theorem dX11_laid_43 : decode cX11_laid 43 = .ok (.goto (-39), 3) := by decide +kernel
theorem dX11_laid_46 : decode cX11_laid 46 = .ok (.iload_n 2, 1) := by decide +kernel
theorem dX11_laid_47 : decode cX11_laid 47 = .ok (.ireturn, 1) := by decide +kernel
theorem dX11_isAnywhere_0 : decode cX11_isAnywhere 0 = .ok (.aload_n 0, 1) := by decide +kernel
theorem dX11_isAnywhere_1 : decode cX11_isAnywhere 1 = .ok (.invokevirtual 255, 3) := by decide +kernel
theorem dX11_isAnywhere_4 : decode cX11_isAnywhere 4 = .ok (.pop, 1) := by decide +kernel
theorem dX11_isAnywhere_5 : decode cX11_isAnywhere 5 = .ok (.iconst 0, 1) := by decide +kernel
theorem dX11_isAnywhere_6 : decode cX11_isAnywhere 6 = .ok (.istore_n 2, 1) := by decide +kernel
theorem dX11_isAnywhere_7 : decode cX11_isAnywhere 7 = .ok (.iconst 0, 1) := by decide +kernel
theorem dX11_isAnywhere_8 : decode cX11_isAnywhere 8 = .ok (.istore_n 3, 1) := by decide +kernel
theorem dX11_isAnywhere_9 : decode cX11_isAnywhere 9 = .ok (.iload_n 3, 1) := by decide +kernel
theorem dX11_isAnywhere_10 : decode cX11_isAnywhere 10 = .ok (.sipush 1024, 3) := by decide +kernel
theorem dX11_isAnywhere_13 : decode cX11_isAnywhere 13 = .ok (.if_icmp .ge 39, 3) := by decide +kernel
theorem dX11_isAnywhere_16 : decode cX11_isAnywhere 16 = .ok (.iload_n 2, 1) := by decide +kernel
theorem dX11_isAnywhere_17 : decode cX11_isAnywhere 17 = .ok (.ifCond .ne 23, 3) := by decide +kernel
theorem dX11_isAnywhere_20 : decode cX11_isAnywhere 20 = .ok (.aload_n 0, 1) := by decide +kernel
theorem dX11_isAnywhere_21 : decode cX11_isAnywhere 21 = .ok (.getfield 44, 3) := by decide +kernel
theorem dX11_isAnywhere_24 : decode cX11_isAnywhere 24 = .ok (.iload_n 3, 1) := by decide +kernel
theorem dX11_isAnywhere_25 : decode cX11_isAnywhere 25 = .ok (.iaload, 1) := by decide +kernel
theorem dX11_isAnywhere_26 : decode cX11_isAnywhere 26 = .ok (.ifCond .lt 18, 3) := by decide +kernel
theorem dX11_isAnywhere_29 : decode cX11_isAnywhere 29 = .ok (.iload_n 3, 1) := by decide +kernel
theorem dX11_isAnywhere_30 : decode cX11_isAnywhere 30 = .ok (.bipush 64, 2) := by decide +kernel
theorem dX11_isAnywhere_32 : decode cX11_isAnywhere 32 = .ok (.irem, 1) := by decide +kernel
theorem dX11_isAnywhere_33 : decode cX11_isAnywhere 33 = .ok (.iload_n 1, 1) := by decide +kernel
theorem dX11_isAnywhere_34 : decode cX11_isAnywhere 34 = .ok (.invokestatic 94, 3) := by decide +kernel
theorem dX11_isAnywhere_37 : decode cX11_isAnywhere 37 = .ok (.ifCond .eq 7, 3) := by decide +kernel
theorem dX11_isAnywhere_40 : decode cX11_isAnywhere 40 = .ok (.iconst 1, 1) := by decide +kernel
theorem dX11_isAnywhere_41 : decode cX11_isAnywhere 41 = .ok (.goto 4, 3) := by decide +kernel
theorem dX11_isAnywhere_44 : decode cX11_isAnywhere 44 = .ok (.iconst 0, 1) := by decide +kernel
theorem dX11_isAnywhere_45 : decode cX11_isAnywhere 45 = .ok (.istore_n 2, 1) := by decide +kernel
theorem dX11_isAnywhere_46 : decode cX11_isAnywhere 46 = .ok (.iinc 3 1, 3) := by decide +kernel
theorem dX11_isAnywhere_49 : decode cX11_isAnywhere 49 = .ok (.goto (-40), 3) := by decide +kernel
theorem dX11_isAnywhere_52 : decode cX11_isAnywhere 52 = .ok (.iload_n 2, 1) := by decide +kernel
theorem dX11_isAnywhere_53 : decode cX11_isAnywhere 53 = .ok (.ireturn, 1) := by decide +kernel
theorem dX11_isIdle_0 : decode cX11_isIdle 0 = .ok (.aload_n 0, 1) := by decide +kernel
theorem dX11_isIdle_1 : decode cX11_isIdle 1 = .ok (.invokevirtual 284, 3) := by decide +kernel
theorem dX11_isIdle_4 : decode cX11_isIdle 4 = .ok (.aload_n 0, 1) := by decide +kernel
theorem dX11_isIdle_5 : decode cX11_isIdle 5 = .ok (.aload_n 0, 1) := by decide +kernel
theorem dX11_isIdle_6 : decode cX11_isIdle 6 = .ok (.invokevirtual 118, 3) := by decide +kernel
theorem dX11_isIdle_9 : decode cX11_isIdle 9 = .ok (.iconst (-1), 1) := by decide +kernel
theorem dX11_isIdle_10 : decode cX11_isIdle 10 = .ok (.iconst (-1), 1) := by decide +kernel
theorem dX11_isIdle_11 : decode cX11_isIdle 11 = .ok (.iload_n 1, 1) := by decide +kernel
theorem dX11_isIdle_12 : decode cX11_isIdle 12 = .ok (.invokevirtual 122, 3) := by decide +kernel
theorem dX11_isIdle_15 : decode cX11_isIdle 15 = .ok (.pop, 1) := by decide +kernel
theorem dX11_isIdle_16 : decode cX11_isIdle 16 = .ok (.iconst 1, 1) := by decide +kernel
theorem dX11_isIdle_17 : decode cX11_isIdle 17 = .ok (.istore_n 2, 1) := by decide +kernel
theorem dX11_isIdle_18 : decode cX11_isIdle 18 = .ok (.iconst 0, 1) := by decide +kernel
theorem dX11_isIdle_19 : decode cX11_isIdle 19 = .ok (.istore_n 3, 1) := by decide +kernel
theorem dX11_isIdle_20 : decode cX11_isIdle 20 = .ok (.iload_n 3, 1) := by decide +kernel
theorem dX11_isIdle_21 : decode cX11_isIdle 21 = .ok (.sipush 1024, 3) := by decide +kernel
theorem dX11_isIdle_24 : decode cX11_isIdle 24 = .ok (.if_icmp .ge 42, 3) := by decide +kernel
theorem dX11_isIdle_27 : decode cX11_isIdle 27 = .ok (.iload_n 2, 1) := by decide +kernel
theorem dX11_isIdle_28 : decode cX11_isIdle 28 = .ok (.ifCond .eq 30, 3) := by decide +kernel
theorem dX11_isIdle_31 : decode cX11_isIdle 31 = .ok (.aload_n 0, 1) := by decide +kernel
theorem dX11_isIdle_32 : decode cX11_isIdle 32 = .ok (.getfield 71, 3) := by decide +kernel
theorem dX11_isIdle_35 : decode cX11_isIdle 35 = .ok (.iload_n 3, 1) := by decide +kernel
theorem dX11_isIdle_36 : decode cX11_isIdle 36 = .ok (.baload, 1) := by decide +kernel
theorem dX11_isIdle_37 : decode cX11_isIdle 37 = .ok (.aload_n 0, 1) := by decide +kernel
theorem dX11_isIdle_38 : decode cX11_isIdle 38 = .ok (.getfield 44, 3) := by decide +kernel
theorem dX11_isIdle_41 : decode cX11_isIdle 41 = .ok (.iload_n 3, 1) := by decide +kernel
theorem dX11_isIdle_42 : decode cX11_isIdle 42 = .ok (.iaload, 1) := by decide +kernel
theorem dX11_isIdle_43 : decode cX11_isIdle 43 = .ok (.ifCond .lt 7, 3) := by decide +kernel
theorem dX11_isIdle_46 : decode cX11_isIdle 46 = .ok (.iconst 1, 1) := by decide +kernel
theorem dX11_isIdle_47 : decode cX11_isIdle 47 = .ok (.goto 4, 3) := by decide +kernel
theorem dX11_isIdle_50 : decode cX11_isIdle 50 = .ok (.iconst 0, 1) := by decide +kernel
theorem dX11_isIdle_51 : decode cX11_isIdle 51 = .ok (.if_icmp .ne 7, 3) := by decide +kernel
theorem dX11_isIdle_54 : decode cX11_isIdle 54 = .ok (.iconst 1, 1) := by decide +kernel
theorem dX11_isIdle_55 : decode cX11_isIdle 55 = .ok (.goto 4, 3) := by decide +kernel
theorem dX11_isIdle_58 : decode cX11_isIdle 58 = .ok (.iconst 0, 1) := by decide +kernel
theorem dX11_isIdle_59 : decode cX11_isIdle 59 = .ok (.istore_n 2, 1) := by decide +kernel
theorem dX11_isIdle_60 : decode cX11_isIdle 60 = .ok (.iinc 3 1, 3) := by decide +kernel
theorem dX11_isIdle_63 : decode cX11_isIdle 63 = .ok (.goto (-43), 3) := by decide +kernel
theorem dX11_isIdle_66 : decode cX11_isIdle 66 = .ok (.iload_n 2, 1) := by decide +kernel
theorem dX11_isIdle_67 : decode cX11_isIdle 67 = .ok (.ireturn, 1) := by decide +kernel
theorem dX11_mark_0 : decode cX11_mark 0 = .ok (.aload_n 0, 1) := by decide +kernel
theorem dX11_mark_1 : decode cX11_mark 1 = .ok (.invokevirtual 211, 3) := by decide +kernel
theorem dX11_mark_4 : decode cX11_mark 4 = .ok (.ifCond .eq 15, 3) := by decide +kernel
theorem dX11_mark_7 : decode cX11_mark 7 = .ok (.iload_n 1, 1) := by decide +kernel
theorem dX11_mark_8 : decode cX11_mark 8 = .ok (.i2l, 1) := by decide +kernel
theorem dX11_mark_9 : decode cX11_mark 9 = .ok (.lconst 0, 1) := by decide +kernel
theorem dX11_mark_10 : decode cX11_mark 10 = .ok (.ldc2_w 253, 3) := by decide +kernel
theorem dX11_mark_13 : decode cX11_mark 13 = .ok (.invokestatic 88, 3) := by decide +kernel
theorem dX11_mark_16 : decode cX11_mark 16 = .ok (.ifCond .ne 6, 3) := by decide +kernel
theorem dX11_mark_19 : decode cX11_mark 19 = .ok (.ldc 214, 2) := by decide +kernel
theorem dX11_mark_21 : decode cX11_mark 21 = .ok (.ireturn, 1) := by decide +kernel
theorem dX11_mark_22 : decode cX11_mark 22 = .ok (.iload_n 2, 1) := by decide +kernel
theorem dX11_mark_23 : decode cX11_mark 23 = .ok (.tableswitch 77 0 3 #[29, 35, 41, 55], 29) := by decide +kernel
theorem dX11_mark_52 : decode cX11_mark 52 = .ok (.aload_n 0, 1) := by decide +kernel
theorem dX11_mark_53 : decode cX11_mark 53 = .ok (.iload_n 1, 1) := by decide +kernel
theorem dX11_mark_54 : decode cX11_mark 54 = .ok (.invokevirtual 293, 3) := by decide +kernel
theorem dX11_mark_57 : decode cX11_mark 57 = .ok (.ireturn, 1) := by decide +kernel
theorem dX11_mark_58 : decode cX11_mark 58 = .ok (.aload_n 0, 1) := by decide +kernel
theorem dX11_mark_59 : decode cX11_mark 59 = .ok (.iload_n 1, 1) := by decide +kernel
theorem dX11_mark_60 : decode cX11_mark 60 = .ok (.invokevirtual 296, 3) := by decide +kernel
theorem dX11_mark_63 : decode cX11_mark 63 = .ok (.ireturn, 1) := by decide +kernel
theorem dX11_mark_64 : decode cX11_mark 64 = .ok (.aload_n 0, 1) := by decide +kernel
theorem dX11_mark_65 : decode cX11_mark 65 = .ok (.iload_n 1, 1) := by decide +kernel
theorem dX11_mark_66 : decode cX11_mark 66 = .ok (.invokevirtual 299, 3) := by decide +kernel
theorem dX11_mark_69 : decode cX11_mark 69 = .ok (.ifCond .eq 7, 3) := by decide +kernel
theorem dX11_mark_72 : decode cX11_mark 72 = .ok (.iconst 1, 1) := by decide +kernel
theorem dX11_mark_73 : decode cX11_mark 73 = .ok (.goto 4, 3) := by decide +kernel
theorem dX11_mark_76 : decode cX11_mark 76 = .ok (.iconst 0, 1) := by decide +kernel
theorem dX11_mark_77 : decode cX11_mark 77 = .ok (.ireturn, 1) := by decide +kernel
theorem dX11_mark_78 : decode cX11_mark 78 = .ok (.aload_n 0, 1) := by decide +kernel
theorem dX11_mark_79 : decode cX11_mark 79 = .ok (.iload_n 1, 1) := by decide +kernel
theorem dX11_mark_80 : decode cX11_mark 80 = .ok (.invokevirtual 293, 3) := by decide +kernel
theorem dX11_mark_83 : decode cX11_mark 83 = .ok (.ifCond .le 15, 3) := by decide +kernel
theorem dX11_mark_86 : decode cX11_mark 86 = .ok (.aload_n 0, 1) := by decide +kernel
theorem dX11_mark_87 : decode cX11_mark 87 = .ok (.iload_n 1, 1) := by decide +kernel
theorem dX11_mark_88 : decode cX11_mark 88 = .ok (.invokevirtual 302, 3) := by decide +kernel
theorem dX11_mark_91 : decode cX11_mark 91 = .ok (.ifCond .eq 7, 3) := by decide +kernel
theorem dX11_mark_94 : decode cX11_mark 94 = .ok (.iconst 1, 1) := by decide +kernel
theorem dX11_mark_95 : decode cX11_mark 95 = .ok (.goto 4, 3) := by decide +kernel
theorem dX11_mark_98 : decode cX11_mark 98 = .ok (.iconst 0, 1) := by decide +kernel
theorem dX11_mark_99 : decode cX11_mark 99 = .ok (.ireturn, 1) := by decide +kernel
theorem dX11_mark_100 : decode cX11_mark 100 = .ok (.ldc 131, 2) := by decide +kernel
theorem dX11_mark_102 : decode cX11_mark 102 = .ok (.ireturn, 1) := by decide +kernel
theorem dX11_linesThat_0 : decode cX11_linesThat 0 = .ok (.iconst 0, 1) := by decide +kernel
theorem dX11_linesThat_1 : decode cX11_linesThat 1 = .ok (.istore_n 2, 1) := by decide +kernel
theorem dX11_linesThat_2 : decode cX11_linesThat 2 = .ok (.iconst 0, 1) := by decide +kernel
theorem dX11_linesThat_3 : decode cX11_linesThat 3 = .ok (.istore_n 3, 1) := by decide +kernel
theorem dX11_linesThat_4 : decode cX11_linesThat 4 = .ok (.iload_n 3, 1) := by decide +kernel
theorem dX11_linesThat_5 : decode cX11_linesThat 5 = .ok (.bipush 16, 2) := by decide +kernel
theorem dX11_linesThat_7 : decode cX11_linesThat 7 = .ok (.if_icmp .ge 72, 3) := by decide +kernel
theorem dX11_linesThat_10 : decode cX11_linesThat 10 = .ok (.iload_n 1, 1) := by decide +kernel
theorem dX11_linesThat_11 : decode cX11_linesThat 11 = .ok (.ifCond .ne 20, 3) := by decide +kernel
theorem dX11_linesThat_14 : decode cX11_linesThat 14 = .ok (.aload_n 0, 1) := by decide +kernel
theorem dX11_linesThat_15 : decode cX11_linesThat 15 = .ok (.iload_n 3, 1) := by decide +kernel
theorem dX11_linesThat_16 : decode cX11_linesThat 16 = .ok (.iconst 0, 1) := by decide +kernel
theorem dX11_linesThat_17 : decode cX11_linesThat 17 = .ok (.invokevirtual 261, 3) := by decide +kernel
theorem dX11_linesThat_20 : decode cX11_linesThat 20 = .ok (.ifCond .ne 7, 3) := by decide +kernel
theorem dX11_linesThat_23 : decode cX11_linesThat 23 = .ok (.iconst 1, 1) := by decide +kernel
theorem dX11_linesThat_24 : decode cX11_linesThat 24 = .ok (.goto 21, 3) := by decide +kernel
theorem dX11_linesThat_27 : decode cX11_linesThat 27 = .ok (.iconst 0, 1) := by decide +kernel
theorem dX11_linesThat_28 : decode cX11_linesThat 28 = .ok (.goto 17, 3) := by decide +kernel
theorem dX11_linesThat_31 : decode cX11_linesThat 31 = .ok (.aload_n 0, 1) := by decide +kernel
theorem dX11_linesThat_32 : decode cX11_linesThat 32 = .ok (.iload_n 3, 1) := by decide +kernel
theorem dX11_linesThat_33 : decode cX11_linesThat 33 = .ok (.iload_n 1, 1) := by decide +kernel
theorem dX11_linesThat_34 : decode cX11_linesThat 34 = .ok (.invokevirtual 261, 3) := by decide +kernel
theorem dX11_linesThat_37 : decode cX11_linesThat 37 = .ok (.ifCond .le 7, 3) := by decide +kernel
theorem dX11_linesThat_40 : decode cX11_linesThat 40 = .ok (.iconst 1, 1) := by decide +kernel
theorem dX11_linesThat_41 : decode cX11_linesThat 41 = .ok (.goto 4, 3) := by decide +kernel
theorem dX11_linesThat_44 : decode cX11_linesThat 44 = .ok (.iconst 0, 1) := by decide +kernel
theorem dX11_linesThat_45 : decode cX11_linesThat 45 = .ok (.istore 4, 2) := by decide +kernel
theorem dX11_linesThat_47 : decode cX11_linesThat 47 = .ok (.iload_n 2, 1) := by decide +kernel
theorem dX11_linesThat_48 : decode cX11_linesThat 48 = .ok (.aload_n 0, 1) := by decide +kernel
theorem dX11_linesThat_49 : decode cX11_linesThat 49 = .ok (.getfield 81, 3) := by decide +kernel
theorem dX11_linesThat_52 : decode cX11_linesThat 52 = .ok (.iload_n 3, 1) := by decide +kernel
theorem dX11_linesThat_53 : decode cX11_linesThat 53 = .ok (.invokestatic 94, 3) := by decide +kernel
theorem dX11_linesThat_56 : decode cX11_linesThat 56 = .ok (.ifCond .eq 14, 3) := by decide +kernel
theorem dX11_linesThat_59 : decode cX11_linesThat 59 = .ok (.iload 4, 2) := by decide +kernel
theorem dX11_linesThat_61 : decode cX11_linesThat 61 = .ok (.ifCond .eq 9, 3) := by decide +kernel
theorem dX11_linesThat_64 : decode cX11_linesThat 64 = .ok (.iconst 1, 1) := by decide +kernel
theorem dX11_linesThat_65 : decode cX11_linesThat 65 = .ok (.iload_n 3, 1) := by decide +kernel
theorem dX11_linesThat_66 : decode cX11_linesThat 66 = .ok (.ishl, 1) := by decide +kernel
theorem dX11_linesThat_67 : decode cX11_linesThat 67 = .ok (.goto 4, 3) := by decide +kernel
theorem dX11_linesThat_70 : decode cX11_linesThat 70 = .ok (.iconst 0, 1) := by decide +kernel
theorem dX11_linesThat_71 : decode cX11_linesThat 71 = .ok (.ior, 1) := by decide +kernel
theorem dX11_linesThat_72 : decode cX11_linesThat 72 = .ok (.istore_n 2, 1) := by decide +kernel
theorem dX11_linesThat_73 : decode cX11_linesThat 73 = .ok (.iinc 3 1, 3) := by decide +kernel
theorem dX11_linesThat_76 : decode cX11_linesThat 76 = .ok (.goto (-72), 3) := by decide +kernel
theorem dX11_linesThat_79 : decode cX11_linesThat 79 = .ok (.iload_n 2, 1) := by decide +kernel
theorem dX11_linesThat_80 : decode cX11_linesThat 80 = .ok (.ireturn, 1) := by decide +kernel
theorem dX11_linesWithLoops_0 : decode cX11_linesWithLoops 0 = .ok (.aload_n 0, 1) := by decide +kernel
theorem dX11_linesWithLoops_1 : decode cX11_linesWithLoops 1 = .ok (.invokevirtual 284, 3) := by decide +kernel
theorem dX11_linesWithLoops_4 : decode cX11_linesWithLoops 4 = .ok (.iconst 0, 1) := by decide +kernel
theorem dX11_linesWithLoops_5 : decode cX11_linesWithLoops 5 = .ok (.istore_n 1, 1) := by decide +kernel
theorem dX11_linesWithLoops_6 : decode cX11_linesWithLoops 6 = .ok (.iconst 0, 1) := by decide +kernel
theorem dX11_linesWithLoops_7 : decode cX11_linesWithLoops 7 = .ok (.istore_n 2, 1) := by decide +kernel
theorem dX11_linesWithLoops_8 : decode cX11_linesWithLoops 8 = .ok (.iload_n 2, 1) := by decide +kernel
theorem dX11_linesWithLoops_9 : decode cX11_linesWithLoops 9 = .ok (.bipush 16, 2) := by decide +kernel
theorem dX11_linesWithLoops_11 : decode cX11_linesWithLoops 11 = .ok (.if_icmp .ge 38, 3) := by decide +kernel
theorem dX11_linesWithLoops_14 : decode cX11_linesWithLoops 14 = .ok (.iload_n 1, 1) := by decide +kernel
theorem dX11_linesWithLoops_15 : decode cX11_linesWithLoops 15 = .ok (.aload_n 0, 1) := by decide +kernel
theorem dX11_linesWithLoops_16 : decode cX11_linesWithLoops 16 = .ok (.getfield 81, 3) := by decide +kernel
theorem dX11_linesWithLoops_19 : decode cX11_linesWithLoops 19 = .ok (.iload_n 2, 1) := by decide +kernel
theorem dX11_linesWithLoops_20 : decode cX11_linesWithLoops 20 = .ok (.invokestatic 94, 3) := by decide +kernel
theorem dX11_linesWithLoops_23 : decode cX11_linesWithLoops 23 = .ok (.ifCond .eq 17, 3) := by decide +kernel
theorem dX11_linesWithLoops_26 : decode cX11_linesWithLoops 26 = .ok (.aload_n 0, 1) := by decide +kernel
theorem dX11_linesWithLoops_27 : decode cX11_linesWithLoops 27 = .ok (.iload_n 2, 1) := by decide +kernel
theorem dX11_linesWithLoops_28 : decode cX11_linesWithLoops 28 = .ok (.invokevirtual 287, 3) := by decide +kernel
theorem dX11_linesWithLoops_31 : decode cX11_linesWithLoops 31 = .ok (.ifCond .lt 9, 3) := by decide +kernel
theorem dX11_linesWithLoops_34 : decode cX11_linesWithLoops 34 = .ok (.iconst 1, 1) := by decide +kernel
theorem dX11_linesWithLoops_35 : decode cX11_linesWithLoops 35 = .ok (.iload_n 2, 1) := by decide +kernel
theorem dX11_linesWithLoops_36 : decode cX11_linesWithLoops 36 = .ok (.ishl, 1) := by decide +kernel
theorem dX11_linesWithLoops_37 : decode cX11_linesWithLoops 37 = .ok (.goto 4, 3) := by decide +kernel
theorem dX11_linesWithLoops_40 : decode cX11_linesWithLoops 40 = .ok (.iconst 0, 1) := by decide +kernel
theorem dX11_linesWithLoops_41 : decode cX11_linesWithLoops 41 = .ok (.ior, 1) := by decide +kernel
theorem dX11_linesWithLoops_42 : decode cX11_linesWithLoops 42 = .ok (.istore_n 1, 1) := by decide +kernel
theorem dX11_linesWithLoops_43 : decode cX11_linesWithLoops 43 = .ok (.iinc 2 1, 3) := by decide +kernel
theorem dX11_linesWithLoops_46 : decode cX11_linesWithLoops 46 = .ok (.goto (-38), 3) := by decide +kernel
theorem dX11_linesWithLoops_49 : decode cX11_linesWithLoops 49 = .ok (.iload_n 1, 1) := by decide +kernel
theorem dX11_linesWithLoops_50 : decode cX11_linesWithLoops 50 = .ok (.ireturn, 1) := by decide +kernel
theorem dX11_ofStates_0 : decode cX11_ofStates 0 = .ok (.iconst 0, 1) := by decide +kernel
theorem dX11_ofStates_1 : decode cX11_ofStates 1 = .ok (.istore_n 2, 1) := by decide +kernel
theorem dX11_ofStates_2 : decode cX11_ofStates 2 = .ok (.iconst 0, 1) := by decide +kernel
theorem dX11_ofStates_3 : decode cX11_ofStates 3 = .ok (.istore_n 3, 1) := by decide +kernel
theorem dX11_ofStates_4 : decode cX11_ofStates 4 = .ok (.iconst 0, 1) := by decide +kernel
theorem dX11_ofStates_5 : decode cX11_ofStates 5 = .ok (.istore 4, 2) := by decide +kernel
theorem dX11_ofStates_7 : decode cX11_ofStates 7 = .ok (.iload 4, 2) := by decide +kernel
theorem dX11_ofStates_9 : decode cX11_ofStates 9 = .ok (.sipush 1024, 3) := by decide +kernel
theorem dX11_ofStates_12 : decode cX11_ofStates 12 = .ok (.if_icmp .ge 77, 3) := by decide +kernel
theorem dX11_ofStates_15 : decode cX11_ofStates 15 = .ok (.aload_n 0, 1) := by decide +kernel
theorem dX11_ofStates_16 : decode cX11_ofStates 16 = .ok (.getfield 44, 3) := by decide +kernel
theorem dX11_ofStates_19 : decode cX11_ofStates 19 = .ok (.iload 4, 2) := by decide +kernel
theorem dX11_ofStates_21 : decode cX11_ofStates 21 = .ok (.iaload, 1) := by decide +kernel
theorem dX11_ofStates_22 : decode cX11_ofStates 22 = .ok (.ifCond .lt 61, 3) := by decide +kernel
theorem dX11_ofStates_25 : decode cX11_ofStates 25 = .ok (.iload_n 1, 1) := by decide +kernel
theorem dX11_ofStates_26 : decode cX11_ofStates 26 = .ok (.ifCond .ne 12, 3) := by decide +kernel
theorem dX11_ofStates_29 : decode cX11_ofStates 29 = .ok (.aload_n 0, 1) := by decide +kernel
theorem dX11_ofStates_30 : decode cX11_ofStates 30 = .ok (.iload 4, 2) := by decide +kernel
theorem dX11_ofStates_32 : decode cX11_ofStates 32 = .ok (.invokevirtual 237, 3) := by decide +kernel
theorem dX11_ofStates_35 : decode cX11_ofStates 35 = .ok (.goto 10, 3) := by decide +kernel
theorem dX11_ofStates_38 : decode cX11_ofStates 38 = .ok (.aload_n 0, 1) := by decide +kernel
theorem dX11_ofStates_39 : decode cX11_ofStates 39 = .ok (.getfield 44, 3) := by decide +kernel
theorem dX11_ofStates_42 : decode cX11_ofStates 42 = .ok (.iload 4, 2) := by decide +kernel
theorem dX11_ofStates_44 : decode cX11_ofStates 44 = .ok (.iaload, 1) := by decide +kernel
theorem dX11_ofStates_45 : decode cX11_ofStates 45 = .ok (.istore 5, 2) := by decide +kernel
theorem dX11_ofStates_47 : decode cX11_ofStates 47 = .ok (.iload 5, 2) := by decide +kernel
theorem dX11_ofStates_49 : decode cX11_ofStates 49 = .ok (.iload_n 2, 1) := by decide +kernel
theorem dX11_ofStates_50 : decode cX11_ofStates 50 = .ok (.if_icmp .le 8, 3) := by decide +kernel
theorem dX11_ofStates_53 : decode cX11_ofStates 53 = .ok (.iload 5, 2) := by decide +kernel
theorem dX11_ofStates_55 : decode cX11_ofStates 55 = .ok (.goto 4, 3) := by decide +kernel
theorem dX11_ofStates_58 : decode cX11_ofStates 58 = .ok (.iload_n 2, 1) := by decide +kernel
theorem dX11_ofStates_59 : decode cX11_ofStates 59 = .ok (.istore_n 2, 1) := by decide +kernel
theorem dX11_ofStates_60 : decode cX11_ofStates 60 = .ok (.iload_n 3, 1) := by decide +kernel
theorem dX11_ofStates_61 : decode cX11_ofStates 61 = .ok (.aload_n 0, 1) := by decide +kernel
theorem dX11_ofStates_62 : decode cX11_ofStates 62 = .ok (.getfield 98, 3) := by decide +kernel
theorem dX11_ofStates_65 : decode cX11_ofStates 65 = .ok (.iload 4, 2) := by decide +kernel
theorem dX11_ofStates_67 : decode cX11_ofStates 67 = .ok (.bipush 64, 2) := by decide +kernel
theorem dX11_ofStates_69 : decode cX11_ofStates 69 = .ok (.idiv, 1) := by decide +kernel
theorem dX11_ofStates_70 : decode cX11_ofStates 70 = .ok (.invokestatic 94, 3) := by decide +kernel
theorem dX11_ofStates_73 : decode cX11_ofStates 73 = .ok (.ifCond .eq 7, 3) := by decide +kernel
theorem dX11_ofStates_76 : decode cX11_ofStates 76 = .ok (.iconst 1, 1) := by decide +kernel
theorem dX11_ofStates_77 : decode cX11_ofStates 77 = .ok (.goto 4, 3) := by decide +kernel
theorem dX11_ofStates_80 : decode cX11_ofStates 80 = .ok (.iconst 0, 1) := by decide +kernel
theorem dX11_ofStates_81 : decode cX11_ofStates 81 = .ok (.iadd, 1) := by decide +kernel
theorem dX11_ofStates_82 : decode cX11_ofStates 82 = .ok (.istore_n 3, 1) := by decide +kernel
theorem dX11_ofStates_83 : decode cX11_ofStates 83 = .ok (.iinc 4 1, 3) := by decide +kernel
theorem dX11_ofStates_86 : decode cX11_ofStates 86 = .ok (.goto (-79), 3) := by decide +kernel
theorem dX11_ofStates_89 : decode cX11_ofStates 89 = .ok (.iload_n 1, 1) := by decide +kernel
theorem dX11_ofStates_90 : decode cX11_ofStates 90 = .ok (.iconst 1, 1) := by decide +kernel
theorem dX11_ofStates_91 : decode cX11_ofStates 91 = .ok (.if_icmp .ne 7, 3) := by decide +kernel
theorem dX11_ofStates_94 : decode cX11_ofStates 94 = .ok (.iload_n 3, 1) := by decide +kernel
theorem dX11_ofStates_95 : decode cX11_ofStates 95 = .ok (.goto 4, 3) := by decide +kernel
theorem dX11_ofStates_98 : decode cX11_ofStates 98 = .ok (.iload_n 2, 1) := by decide +kernel
theorem dX11_ofStates_99 : decode cX11_ofStates 99 = .ok (.ireturn, 1) := by decide +kernel
theorem dX11_whole_0 : decode cX11_whole 0 = .ok (.aload_n 0, 1) := by decide +kernel
theorem dX11_whole_1 : decode cX11_whole 1 = .ok (.invokevirtual 211, 3) := by decide +kernel
theorem dX11_whole_4 : decode cX11_whole 4 = .ok (.ifCond .ne 6, 3) := by decide +kernel
theorem dX11_whole_7 : decode cX11_whole 7 = .ok (.ldc 214, 2) := by decide +kernel
theorem dX11_whole_9 : decode cX11_whole 9 = .ok (.ireturn, 1) := by decide +kernel
theorem dX11_whole_10 : decode cX11_whole 10 = .ok (.aload_n 0, 1) := by decide +kernel
theorem dX11_whole_11 : decode cX11_whole 11 = .ok (.invokevirtual 255, 3) := by decide +kernel
theorem dX11_whole_14 : decode cX11_whole 14 = .ok (.istore_n 2, 1) := by decide +kernel
theorem dX11_whole_15 : decode cX11_whole 15 = .ok (.aload_n 0, 1) := by decide +kernel
theorem dX11_whole_16 : decode cX11_whole 16 = .ok (.invokevirtual 258, 3) := by decide +kernel
theorem dX11_whole_19 : decode cX11_whole 19 = .ok (.iload_n 1, 1) := by decide +kernel
theorem dX11_whole_20 : decode cX11_whole 20 = .ok (.tableswitch 91 0 7 #[48, 50, 56, 62, 68, 73, 79, 85], 48) := by decide +kernel
theorem dX11_whole_68 : decode cX11_whole 68 = .ok (.iload_n 2, 1) := by decide +kernel
theorem dX11_whole_69 : decode cX11_whole 69 = .ok (.ireturn, 1) := by decide +kernel
theorem dX11_whole_70 : decode cX11_whole 70 = .ok (.aload_n 0, 1) := by decide +kernel
theorem dX11_whole_71 : decode cX11_whole 71 = .ok (.iconst 0, 1) := by decide +kernel
theorem dX11_whole_72 : decode cX11_whole 72 = .ok (.invokevirtual 305, 3) := by decide +kernel
theorem dX11_whole_75 : decode cX11_whole 75 = .ok (.ireturn, 1) := by decide +kernel
theorem dX11_whole_76 : decode cX11_whole 76 = .ok (.aload_n 0, 1) := by decide +kernel
theorem dX11_whole_77 : decode cX11_whole 77 = .ok (.iconst 1, 1) := by decide +kernel
theorem dX11_whole_78 : decode cX11_whole 78 = .ok (.invokevirtual 305, 3) := by decide +kernel
theorem dX11_whole_81 : decode cX11_whole 81 = .ok (.ireturn, 1) := by decide +kernel
theorem dX11_whole_82 : decode cX11_whole 82 = .ok (.aload_n 0, 1) := by decide +kernel
theorem dX11_whole_83 : decode cX11_whole 83 = .ok (.iconst 2, 1) := by decide +kernel
theorem dX11_whole_84 : decode cX11_whole 84 = .ok (.invokevirtual 305, 3) := by decide +kernel
theorem dX11_whole_87 : decode cX11_whole 87 = .ok (.ireturn, 1) := by decide +kernel
theorem dX11_whole_88 : decode cX11_whole 88 = .ok (.aload_n 0, 1) := by decide +kernel
theorem dX11_whole_89 : decode cX11_whole 89 = .ok (.invokevirtual 308, 3) := by decide +kernel
theorem dX11_whole_92 : decode cX11_whole 92 = .ok (.ireturn, 1) := by decide +kernel
theorem dX11_whole_93 : decode cX11_whole 93 = .ok (.aload_n 0, 1) := by decide +kernel
theorem dX11_whole_94 : decode cX11_whole 94 = .ok (.iconst 0, 1) := by decide +kernel
theorem dX11_whole_95 : decode cX11_whole 95 = .ok (.invokevirtual 311, 3) := by decide +kernel
theorem dX11_whole_98 : decode cX11_whole 98 = .ok (.ireturn, 1) := by decide +kernel
theorem dX11_whole_99 : decode cX11_whole 99 = .ok (.aload_n 0, 1) := by decide +kernel
theorem dX11_whole_100 : decode cX11_whole 100 = .ok (.iconst 1, 1) := by decide +kernel
theorem dX11_whole_101 : decode cX11_whole 101 = .ok (.invokevirtual 311, 3) := by decide +kernel
theorem dX11_whole_104 : decode cX11_whole 104 = .ok (.ireturn, 1) := by decide +kernel
theorem dX11_whole_105 : decode cX11_whole 105 = .ok (.aload_n 0, 1) := by decide +kernel
theorem dX11_whole_106 : decode cX11_whole 106 = .ok (.iconst 2, 1) := by decide +kernel
theorem dX11_whole_107 : decode cX11_whole 107 = .ok (.invokevirtual 311, 3) := by decide +kernel
theorem dX11_whole_110 : decode cX11_whole 110 = .ok (.ireturn, 1) := by decide +kernel
theorem dX11_whole_111 : decode cX11_whole 111 = .ok (.ldc 131, 2) := by decide +kernel
theorem dX11_whole_113 : decode cX11_whole 113 = .ok (.ireturn, 1) := by decide +kernel
theorem dX11_isTooMuch_0 : decode cX11_isTooMuch 0 = .ok (.lload_n 0, 1) := by decide +kernel
theorem dX11_isTooMuch_1 : decode cX11_isTooMuch 1 = .ok (.ldc2_w 314, 3) := by decide +kernel
theorem dX11_isTooMuch_4 : decode cX11_isTooMuch 4 = .ok (.lload_n 2, 1) := by decide +kernel
theorem dX11_isTooMuch_5 : decode cX11_isTooMuch 5 = .ok (.lsub, 1) := by decide +kernel
theorem dX11_isTooMuch_6 : decode cX11_isTooMuch 6 = .ok (.lcmp, 1) := by decide +kernel
theorem dX11_isTooMuch_7 : decode cX11_isTooMuch 7 = .ok (.ifCond .le 7, 3) := by decide +kernel
theorem dX11_isTooMuch_10 : decode cX11_isTooMuch 10 = .ok (.iconst 1, 1) := by decide +kernel
theorem dX11_isTooMuch_11 : decode cX11_isTooMuch 11 = .ok (.goto 4, 3) := by decide +kernel
theorem dX11_isTooMuch_14 : decode cX11_isTooMuch 14 = .ok (.iconst 0, 1) := by decide +kernel
theorem dX11_isTooMuch_15 : decode cX11_isTooMuch 15 = .ok (.ireturn, 1) := by decide +kernel
theorem dX11_goes_0 : decode cX11_goes 0 = .ok (.iconst 0, 1) := by decide +kernel
theorem dX11_goes_1 : decode cX11_goes 1 = .ok (.istore_n 1, 1) := by decide +kernel
theorem dX11_goes_2 : decode cX11_goes 2 = .ok (.iload_n 1, 1) := by decide +kernel
theorem dX11_goes_3 : decode cX11_goes 3 = .ok (.sipush 1024, 3) := by decide +kernel
theorem dX11_goes_6 : decode cX11_goes 6 = .ok (.if_icmp .ge 16, 3) := by decide +kernel
theorem dX11_goes_9 : decode cX11_goes 9 = .ok (.aload_n 0, 1) := by decide +kernel
theorem dX11_goes_10 : decode cX11_goes 10 = .ok (.getfield 78, 3) := by decide +kernel
theorem dX11_goes_13 : decode cX11_goes 13 = .ok (.iload_n 1, 1) := by decide +kernel
theorem dX11_goes_14 : decode cX11_goes 14 = .ok (.lconst 0, 1) := by decide +kernel
theorem dX11_goes_15 : decode cX11_goes 15 = .ok (.lastore, 1) := by decide +kernel
theorem dX11_goes_16 : decode cX11_goes 16 = .ok (.iinc 1 1, 3) := by decide +kernel
theorem dX11_goes_19 : decode cX11_goes 19 = .ok (.goto (-17), 3) := by decide +kernel
theorem dX11_goes_22 : decode cX11_goes 22 = .ok (.iconst 0, 1) := by decide +kernel
theorem dX11_goes_23 : decode cX11_goes 23 = .ok (.istore_n 1, 1) := by decide +kernel
theorem dX11_goes_24 : decode cX11_goes 24 = .ok (.iload_n 1, 1) := by decide +kernel
theorem dX11_goes_25 : decode cX11_goes 25 = .ok (.sipush 1024, 3) := by decide +kernel
theorem dX11_goes_28 : decode cX11_goes 28 = .ok (.if_icmp .ge 88, 3) := by decide +kernel
theorem dX11_goes_31 : decode cX11_goes 31 = .ok (.iconst 0, 1) := by decide +kernel
theorem dX11_goes_32 : decode cX11_goes 32 = .ok (.istore_n 2, 1) := by decide +kernel
theorem dX11_goes_33 : decode cX11_goes 33 = .ok (.iload_n 2, 1) := by decide +kernel
theorem dX11_goes_34 : decode cX11_goes 34 = .ok (.aload_n 0, 1) := by decide +kernel
theorem dX11_goes_35 : decode cX11_goes 35 = .ok (.getfield 85, 3) := by decide +kernel
theorem dX11_goes_38 : decode cX11_goes 38 = .ok (.if_icmp .ge 72, 3) := by decide +kernel
theorem dX11_goes_41 : decode cX11_goes 41 = .ok (.aload_n 0, 1) := by decide +kernel
theorem dX11_goes_42 : decode cX11_goes 42 = .ok (.getfield 74, 3) := by decide +kernel
theorem dX11_goes_45 : decode cX11_goes 45 = .ok (.iload_n 1, 1) := by decide +kernel
theorem dX11_goes_46 : decode cX11_goes 46 = .ok (.laload, 1) := by decide +kernel
theorem dX11_goes_47 : decode cX11_goes 47 = .ok (.lconst 0, 1) := by decide +kernel
theorem dX11_goes_48 : decode cX11_goes 48 = .ok (.lcmp, 1) := by decide +kernel
theorem dX11_goes_49 : decode cX11_goes 49 = .ok (.ifCond .le 61, 3) := by decide +kernel
theorem dX11_goes_52 : decode cX11_goes 52 = .ok (.aload_n 0, 1) := by decide +kernel
theorem dX11_goes_53 : decode cX11_goes 53 = .ok (.iload_n 2, 1) := by decide +kernel
theorem dX11_goes_54 : decode cX11_goes 54 = .ok (.iload_n 1, 1) := by decide +kernel
theorem dX11_goes_55 : decode cX11_goes 55 = .ok (.iconst (-1), 1) := by decide +kernel
theorem dX11_goes_56 : decode cX11_goes 56 = .ok (.invokevirtual 105, 3) := by decide +kernel
theorem dX11_goes_59 : decode cX11_goes 59 = .ok (.ifCond .eq 45, 3) := by decide +kernel
theorem dX11_goes_62 : decode cX11_goes 62 = .ok (.aload_n 0, 1) := by decide +kernel
theorem dX11_goes_63 : decode cX11_goes 63 = .ok (.iload_n 2, 1) := by decide +kernel
theorem dX11_goes_64 : decode cX11_goes 64 = .ok (.iload_n 1, 1) := by decide +kernel
theorem dX11_goes_65 : decode cX11_goes 65 = .ok (.invokevirtual 108, 3) := by decide +kernel
theorem dX11_goes_68 : decode cX11_goes 68 = .ok (.istore_n 3, 1) := by decide +kernel
theorem dX11_goes_69 : decode cX11_goes 69 = .ok (.aload_n 0, 1) := by decide +kernel
theorem dX11_goes_70 : decode cX11_goes 70 = .ok (.getfield 78, 3) := by decide +kernel
theorem dX11_goes_73 : decode cX11_goes 73 = .ok (.iload_n 3, 1) := by decide +kernel
theorem dX11_goes_74 : decode cX11_goes 74 = .ok (.laload, 1) := by decide +kernel
theorem dX11_goes_75 : decode cX11_goes 75 = .ok (.aload_n 0, 1) := by decide +kernel
theorem dX11_goes_76 : decode cX11_goes 76 = .ok (.getfield 74, 3) := by decide +kernel
theorem dX11_goes_79 : decode cX11_goes 79 = .ok (.iload_n 1, 1) := by decide +kernel
theorem dX11_goes_80 : decode cX11_goes 80 = .ok (.laload, 1) := by decide +kernel
theorem dX11_goes_81 : decode cX11_goes 81 = .ok (.invokestatic 316, 3) := by decide +kernel
theorem dX11_goes_84 : decode cX11_goes 84 = .ok (.ifCond .eq 5, 3) := by decide +kernel
theorem dX11_goes_87 : decode cX11_goes 87 = .ok (.iconst 0, 1) := by decide +kernel
theorem dX11_goes_88 : decode cX11_goes 88 = .ok (.ireturn, 1) := by decide +kernel
theorem dX11_goes_89 : decode cX11_goes 89 = .ok (.aload_n 0, 1) := by decide +kernel
theorem dX11_goes_90 : decode cX11_goes 90 = .ok (.getfield 78, 3) := by decide +kernel
theorem dX11_goes_93 : decode cX11_goes 93 = .ok (.iload_n 3, 1) := by decide +kernel
theorem dX11_goes_94 : decode cX11_goes 94 = .ok (.dup2, 1) := by decide +kernel
theorem dX11_goes_95 : decode cX11_goes 95 = .ok (.laload, 1) := by decide +kernel
theorem dX11_goes_96 : decode cX11_goes 96 = .ok (.aload_n 0, 1) := by decide +kernel
theorem dX11_goes_97 : decode cX11_goes 97 = .ok (.getfield 74, 3) := by decide +kernel
theorem dX11_goes_100 : decode cX11_goes 100 = .ok (.iload_n 1, 1) := by decide +kernel
theorem dX11_goes_101 : decode cX11_goes 101 = .ok (.laload, 1) := by decide +kernel
theorem dX11_goes_102 : decode cX11_goes 102 = .ok (.ladd, 1) := by decide +kernel
theorem dX11_goes_103 : decode cX11_goes 103 = .ok (.lastore, 1) := by decide +kernel
theorem dX11_goes_104 : decode cX11_goes 104 = .ok (.iinc 2 1, 3) := by decide +kernel
theorem dX11_goes_107 : decode cX11_goes 107 = .ok (.goto (-74), 3) := by decide +kernel
theorem dX11_goes_110 : decode cX11_goes 110 = .ok (.iinc 1 1, 3) := by decide +kernel
theorem dX11_goes_113 : decode cX11_goes 113 = .ok (.goto (-89), 3) := by decide +kernel
theorem dX11_goes_116 : decode cX11_goes 116 = .ok (.iconst 0, 1) := by decide +kernel
theorem dX11_goes_117 : decode cX11_goes 117 = .ok (.istore_n 1, 1) := by decide +kernel
theorem dX11_goes_118 : decode cX11_goes 118 = .ok (.iload_n 1, 1) := by decide +kernel
theorem dX11_goes_119 : decode cX11_goes 119 = .ok (.sipush 1024, 3) := by decide +kernel
theorem dX11_goes_122 : decode cX11_goes 122 = .ok (.if_icmp .ge 21, 3) := by decide +kernel
theorem dX11_goes_125 : decode cX11_goes 125 = .ok (.aload_n 0, 1) := by decide +kernel
theorem dX11_goes_126 : decode cX11_goes 126 = .ok (.getfield 74, 3) := by decide +kernel
theorem dX11_goes_129 : decode cX11_goes 129 = .ok (.iload_n 1, 1) := by decide +kernel
theorem dX11_goes_130 : decode cX11_goes 130 = .ok (.aload_n 0, 1) := by decide +kernel
theorem dX11_goes_131 : decode cX11_goes 131 = .ok (.getfield 78, 3) := by decide +kernel
theorem dX11_goes_134 : decode cX11_goes 134 = .ok (.iload_n 1, 1) := by decide +kernel
theorem dX11_goes_135 : decode cX11_goes 135 = .ok (.laload, 1) := by decide +kernel
theorem dX11_goes_136 : decode cX11_goes 136 = .ok (.lastore, 1) := by decide +kernel
theorem dX11_goes_137 : decode cX11_goes 137 = .ok (.iinc 1 1, 3) := by decide +kernel
theorem dX11_goes_140 : decode cX11_goes 140 = .ok (.goto (-22), 3) := by decide +kernel
theorem dX11_goes_143 : decode cX11_goes 143 = .ok (.iconst 1, 1) := by decide +kernel
theorem dX11_goes_144 : decode cX11_goes 144 = .ok (.ireturn, 1) := by decide +kernel
theorem dX11_rows_0 : decode cX11_rows 0 = .ok (.aload_n 0, 1) := by decide +kernel
theorem dX11_rows_1 : decode cX11_rows 1 = .ok (.iload_n 1, 1) := by decide +kernel
theorem dX11_rows_2 : decode cX11_rows 2 = .ok (.invokevirtual 250, 3) := by decide +kernel
theorem dX11_rows_5 : decode cX11_rows 5 = .ok (.ifCond .ne 7, 3) := by decide +kernel
theorem dX11_rows_8 : decode cX11_rows 8 = .ok (.ldc2_w 320, 3) := by decide +kernel
theorem dX11_rows_11 : decode cX11_rows 11 = .ok (.lreturn, 1) := by decide +kernel
theorem dX11_rows_12 : decode cX11_rows 12 = .ok (.iload_n 2, 1) := by decide +kernel
theorem dX11_rows_13 : decode cX11_rows 13 = .ok (.i2l, 1) := by decide +kernel
theorem dX11_rows_14 : decode cX11_rows 14 = .ok (.lconst 0, 1) := by decide +kernel
theorem dX11_rows_15 : decode cX11_rows 15 = .ok (.ldc2_w 322, 3) := by decide +kernel
theorem dX11_rows_18 : decode cX11_rows 18 = .ok (.invokestatic 88, 3) := by decide +kernel
theorem dX11_rows_21 : decode cX11_rows 21 = .ok (.ifCond .ne 7, 3) := by decide +kernel
theorem dX11_rows_24 : decode cX11_rows 24 = .ok (.ldc2_w 324, 3) := by decide +kernel
theorem dX11_rows_27 : decode cX11_rows 27 = .ok (.lreturn, 1) := by decide +kernel
theorem dX11_rows_28 : decode cX11_rows 28 = .ok (.iconst 0, 1) := by decide +kernel
theorem dX11_rows_29 : decode cX11_rows 29 = .ok (.istore_n 3, 1) := by decide +kernel
theorem dX11_rows_30 : decode cX11_rows 30 = .ok (.iload_n 3, 1) := by decide +kernel
theorem dX11_rows_31 : decode cX11_rows 31 = .ok (.sipush 1024, 3) := by decide +kernel
theorem dX11_rows_34 : decode cX11_rows 34 = .ok (.if_icmp .ge 28, 3) := by decide +kernel
theorem dX11_rows_37 : decode cX11_rows 37 = .ok (.aload_n 0, 1) := by decide +kernel
theorem dX11_rows_38 : decode cX11_rows 38 = .ok (.getfield 74, 3) := by decide +kernel
theorem dX11_rows_41 : decode cX11_rows 41 = .ok (.iload_n 3, 1) := by decide +kernel
theorem dX11_rows_42 : decode cX11_rows 42 = .ok (.iload_n 3, 1) := by decide +kernel
theorem dX11_rows_43 : decode cX11_rows 43 = .ok (.aload_n 0, 1) := by decide +kernel
theorem dX11_rows_44 : decode cX11_rows 44 = .ok (.invokevirtual 118, 3) := by decide +kernel
theorem dX11_rows_47 : decode cX11_rows 47 = .ok (.if_icmp .ne 7, 3) := by decide +kernel
theorem dX11_rows_50 : decode cX11_rows 50 = .ok (.lconst 1, 1) := by decide +kernel
theorem dX11_rows_51 : decode cX11_rows 51 = .ok (.goto 4, 3) := by decide +kernel
theorem dX11_rows_54 : decode cX11_rows 54 = .ok (.lconst 0, 1) := by decide +kernel
theorem dX11_rows_55 : decode cX11_rows 55 = .ok (.lastore, 1) := by decide +kernel
theorem dX11_rows_56 : decode cX11_rows 56 = .ok (.iinc 3 1, 3) := by decide +kernel
theorem dX11_rows_59 : decode cX11_rows 59 = .ok (.goto (-29), 3) := by decide +kernel
theorem dX11_rows_62 : decode cX11_rows 62 = .ok (.iconst 0, 1) := by decide +kernel
theorem dX11_rows_63 : decode cX11_rows 63 = .ok (.istore_n 3, 1) := by decide +kernel
theorem dX11_rows_64 : decode cX11_rows 64 = .ok (.iload_n 3, 1) := by decide +kernel
theorem dX11_rows_65 : decode cX11_rows 65 = .ok (.iload_n 2, 1) := by decide +kernel
theorem dX11_rows_66 : decode cX11_rows 66 = .ok (.if_icmp .ge 20, 3) := by decide +kernel
theorem dX11_rows_69 : decode cX11_rows 69 = .ok (.aload_n 0, 1) := by decide +kernel
theorem dX11_rows_70 : decode cX11_rows 70 = .ok (.invokevirtual 326, 3) := by decide +kernel
theorem dX11_rows_73 : decode cX11_rows 73 = .ok (.ifCond .ne 7, 3) := by decide +kernel
theorem dX11_rows_76 : decode cX11_rows 76 = .ok (.ldc2_w 329, 3) := by decide +kernel
theorem dX11_rows_79 : decode cX11_rows 79 = .ok (.lreturn, 1) := by decide +kernel
theorem dX11_rows_80 : decode cX11_rows 80 = .ok (.iinc 3 1, 3) := by decide +kernel
theorem dX11_rows_83 : decode cX11_rows 83 = .ok (.goto (-19), 3) := by decide +kernel
theorem dX11_rows_86 : decode cX11_rows 86 = .ok (.lconst 0, 1) := by decide +kernel
theorem dX11_rows_87 : decode cX11_rows 87 = .ok (.lstore_n 3, 1) := by decide +kernel
theorem dX11_rows_88 : decode cX11_rows 88 = .ok (.bipush 64, 2) := by decide +kernel
theorem dX11_rows_90 : decode cX11_rows 90 = .ok (.iload_n 1, 1) := by decide +kernel
theorem dX11_rows_91 : decode cX11_rows 91 = .ok (.imul, 1) := by decide +kernel
theorem dX11_rows_92 : decode cX11_rows 92 = .ok (.istore 5, 2) := by decide +kernel
theorem dX11_rows_94 : decode cX11_rows 94 = .ok (.iload 5, 2) := by decide +kernel
theorem dX11_rows_96 : decode cX11_rows 96 = .ok (.bipush 64, 2) := by decide +kernel
theorem dX11_rows_98 : decode cX11_rows 98 = .ok (.iload_n 1, 1) := by decide +kernel
theorem dX11_rows_99 : decode cX11_rows 99 = .ok (.imul, 1) := by decide +kernel
theorem dX11_rows_100 : decode cX11_rows 100 = .ok (.bipush 64, 2) := by decide +kernel
theorem dX11_rows_102 : decode cX11_rows 102 = .ok (.iadd, 1) := by decide +kernel
theorem dX11_rows_103 : decode cX11_rows 103 = .ok (.if_icmp .ge 37, 3) := by decide +kernel
theorem dX11_rows_106 : decode cX11_rows 106 = .ok (.lload_n 3, 1) := by decide +kernel
theorem dX11_rows_107 : decode cX11_rows 107 = .ok (.aload_n 0, 1) := by decide +kernel
theorem dX11_rows_108 : decode cX11_rows 108 = .ok (.getfield 74, 3) := by decide +kernel
theorem dX11_rows_111 : decode cX11_rows 111 = .ok (.iload 5, 2) := by decide +kernel
theorem dX11_rows_113 : decode cX11_rows 113 = .ok (.laload, 1) := by decide +kernel
theorem dX11_rows_114 : decode cX11_rows 114 = .ok (.invokestatic 316, 3) := by decide +kernel
theorem dX11_rows_117 : decode cX11_rows 117 = .ok (.ifCond .eq 7, 3) := by decide +kernel
theorem dX11_rows_120 : decode cX11_rows 120 = .ok (.ldc2_w 329, 3) := by decide +kernel
theorem dX11_rows_123 : decode cX11_rows 123 = .ok (.lreturn, 1) := by decide +kernel
theorem dX11_rows_124 : decode cX11_rows 124 = .ok (.lload_n 3, 1) := by decide +kernel
theorem dX11_rows_125 : decode cX11_rows 125 = .ok (.aload_n 0, 1) := by decide +kernel
theorem dX11_rows_126 : decode cX11_rows 126 = .ok (.getfield 74, 3) := by decide +kernel
theorem dX11_rows_129 : decode cX11_rows 129 = .ok (.iload 5, 2) := by decide +kernel
theorem dX11_rows_131 : decode cX11_rows 131 = .ok (.laload, 1) := by decide +kernel
theorem dX11_rows_132 : decode cX11_rows 132 = .ok (.ladd, 1) := by decide +kernel
theorem dX11_rows_133 : decode cX11_rows 133 = .ok (.lstore_n 3, 1) := by decide +kernel
theorem dX11_rows_134 : decode cX11_rows 134 = .ok (.iinc 5 1, 3) := by decide +kernel
theorem dX11_rows_137 : decode cX11_rows 137 = .ok (.goto (-43), 3) := by decide +kernel
theorem dX11_rows_140 : decode cX11_rows 140 = .ok (.lload_n 3, 1) := by decide +kernel
theorem dX11_rows_141 : decode cX11_rows 141 = .ok (.lreturn, 1) := by decide +kernel
theorem dJ6_bitCount_0f7a4_0 : decode cJ6_bitCount_0f7a4 0 = .ok (.iload_n 0, 1) := by decide +kernel
theorem dJ6_bitCount_0f7a4_1 : decode cJ6_bitCount_0f7a4 1 = .ok (.iload_n 0, 1) := by decide +kernel
theorem dJ6_bitCount_0f7a4_2 : decode cJ6_bitCount_0f7a4 2 = .ok (.iconst 1, 1) := by decide +kernel
theorem dJ6_bitCount_0f7a4_3 : decode cJ6_bitCount_0f7a4 3 = .ok (.iushr, 1) := by decide +kernel
theorem dJ6_bitCount_0f7a4_4 : decode cJ6_bitCount_0f7a4 4 = .ok (.ldc_w 265, 3) := by decide +kernel
theorem dJ6_bitCount_0f7a4_7 : decode cJ6_bitCount_0f7a4 7 = .ok (.iand, 1) := by decide +kernel
theorem dJ6_bitCount_0f7a4_8 : decode cJ6_bitCount_0f7a4 8 = .ok (.isub, 1) := by decide +kernel
theorem dJ6_bitCount_0f7a4_9 : decode cJ6_bitCount_0f7a4 9 = .ok (.istore_n 0, 1) := by decide +kernel
theorem dJ6_bitCount_0f7a4_10 : decode cJ6_bitCount_0f7a4 10 = .ok (.iload_n 0, 1) := by decide +kernel
theorem dJ6_bitCount_0f7a4_11 : decode cJ6_bitCount_0f7a4 11 = .ok (.ldc_w 266, 3) := by decide +kernel
theorem dJ6_bitCount_0f7a4_14 : decode cJ6_bitCount_0f7a4 14 = .ok (.iand, 1) := by decide +kernel
theorem dJ6_bitCount_0f7a4_15 : decode cJ6_bitCount_0f7a4 15 = .ok (.iload_n 0, 1) := by decide +kernel
theorem dJ6_bitCount_0f7a4_16 : decode cJ6_bitCount_0f7a4 16 = .ok (.iconst 2, 1) := by decide +kernel
theorem dJ6_bitCount_0f7a4_17 : decode cJ6_bitCount_0f7a4 17 = .ok (.iushr, 1) := by decide +kernel
theorem dJ6_bitCount_0f7a4_18 : decode cJ6_bitCount_0f7a4 18 = .ok (.ldc_w 266, 3) := by decide +kernel
theorem dJ6_bitCount_0f7a4_21 : decode cJ6_bitCount_0f7a4 21 = .ok (.iand, 1) := by decide +kernel
theorem dJ6_bitCount_0f7a4_22 : decode cJ6_bitCount_0f7a4 22 = .ok (.iadd, 1) := by decide +kernel
theorem dJ6_bitCount_0f7a4_23 : decode cJ6_bitCount_0f7a4 23 = .ok (.istore_n 0, 1) := by decide +kernel
theorem dJ6_bitCount_0f7a4_24 : decode cJ6_bitCount_0f7a4 24 = .ok (.iload_n 0, 1) := by decide +kernel
theorem dJ6_bitCount_0f7a4_25 : decode cJ6_bitCount_0f7a4 25 = .ok (.iload_n 0, 1) := by decide +kernel
theorem dJ6_bitCount_0f7a4_26 : decode cJ6_bitCount_0f7a4 26 = .ok (.iconst 4, 1) := by decide +kernel
theorem dJ6_bitCount_0f7a4_27 : decode cJ6_bitCount_0f7a4 27 = .ok (.iushr, 1) := by decide +kernel
theorem dJ6_bitCount_0f7a4_28 : decode cJ6_bitCount_0f7a4 28 = .ok (.iadd, 1) := by decide +kernel
theorem dJ6_bitCount_0f7a4_29 : decode cJ6_bitCount_0f7a4 29 = .ok (.ldc_w 267, 3) := by decide +kernel
theorem dJ6_bitCount_0f7a4_32 : decode cJ6_bitCount_0f7a4 32 = .ok (.iand, 1) := by decide +kernel
theorem dJ6_bitCount_0f7a4_33 : decode cJ6_bitCount_0f7a4 33 = .ok (.istore_n 0, 1) := by decide +kernel
theorem dJ6_bitCount_0f7a4_34 : decode cJ6_bitCount_0f7a4 34 = .ok (.iload_n 0, 1) := by decide +kernel
theorem dJ6_bitCount_0f7a4_35 : decode cJ6_bitCount_0f7a4 35 = .ok (.iload_n 0, 1) := by decide +kernel
theorem dJ6_bitCount_0f7a4_36 : decode cJ6_bitCount_0f7a4 36 = .ok (.bipush 8, 2) := by decide +kernel
theorem dJ6_bitCount_0f7a4_38 : decode cJ6_bitCount_0f7a4 38 = .ok (.iushr, 1) := by decide +kernel
theorem dJ6_bitCount_0f7a4_39 : decode cJ6_bitCount_0f7a4 39 = .ok (.iadd, 1) := by decide +kernel
theorem dJ6_bitCount_0f7a4_40 : decode cJ6_bitCount_0f7a4 40 = .ok (.istore_n 0, 1) := by decide +kernel
theorem dJ6_bitCount_0f7a4_41 : decode cJ6_bitCount_0f7a4 41 = .ok (.iload_n 0, 1) := by decide +kernel
theorem dJ6_bitCount_0f7a4_42 : decode cJ6_bitCount_0f7a4 42 = .ok (.iload_n 0, 1) := by decide +kernel
theorem dJ6_bitCount_0f7a4_43 : decode cJ6_bitCount_0f7a4 43 = .ok (.bipush 16, 2) := by decide +kernel
theorem dJ6_bitCount_0f7a4_45 : decode cJ6_bitCount_0f7a4 45 = .ok (.iushr, 1) := by decide +kernel
theorem dJ6_bitCount_0f7a4_46 : decode cJ6_bitCount_0f7a4 46 = .ok (.iadd, 1) := by decide +kernel
theorem dJ6_bitCount_0f7a4_47 : decode cJ6_bitCount_0f7a4 47 = .ok (.istore_n 0, 1) := by decide +kernel
theorem dJ6_bitCount_0f7a4_48 : decode cJ6_bitCount_0f7a4 48 = .ok (.iload_n 0, 1) := by decide +kernel
theorem dJ6_bitCount_0f7a4_49 : decode cJ6_bitCount_0f7a4 49 = .ok (.bipush 63, 2) := by decide +kernel
theorem dJ6_bitCount_0f7a4_51 : decode cJ6_bitCount_0f7a4 51 = .ok (.iand, 1) := by decide +kernel
theorem dJ6_bitCount_0f7a4_52 : decode cJ6_bitCount_0f7a4 52 = .ok (.ireturn, 1) := by decide +kernel
theorem dJ9_max_7cf53_0 : decode cJ9_max_7cf53 0 = .ok (.iload_n 0, 1) := by decide +kernel
theorem dJ9_max_7cf53_1 : decode cJ9_max_7cf53 1 = .ok (.iload_n 1, 1) := by decide +kernel
theorem dJ9_max_7cf53_2 : decode cJ9_max_7cf53 2 = .ok (.if_icmp .lt 7, 3) := by decide +kernel
theorem dJ9_max_7cf53_5 : decode cJ9_max_7cf53 5 = .ok (.iload_n 0, 1) := by decide +kernel
theorem dJ9_max_7cf53_6 : decode cJ9_max_7cf53 6 = .ok (.goto 4, 3) := by decide +kernel
theorem dJ9_max_7cf53_9 : decode cJ9_max_7cf53 9 = .ok (.iload_n 1, 1) := by decide +kernel
theorem dJ9_max_7cf53_10 : decode cJ9_max_7cf53 10 = .ok (.ireturn, 1) := by decide +kernel
theorem dJ9_min_7cf53_0 : decode cJ9_min_7cf53 0 = .ok (.iload_n 0, 1) := by decide +kernel
theorem dJ9_min_7cf53_1 : decode cJ9_min_7cf53 1 = .ok (.iload_n 1, 1) := by decide +kernel
theorem dJ9_min_7cf53_2 : decode cJ9_min_7cf53 2 = .ok (.if_icmp .gt 7, 3) := by decide +kernel
theorem dJ9_min_7cf53_5 : decode cJ9_min_7cf53 5 = .ok (.iload_n 0, 1) := by decide +kernel
theorem dJ9_min_7cf53_6 : decode cJ9_min_7cf53 6 = .ok (.goto 4, 3) := by decide +kernel
theorem dJ9_min_7cf53_9 : decode cJ9_min_7cf53 9 = .ok (.iload_n 1, 1) := by decide +kernel
theorem dJ9_min_7cf53_10 : decode cJ9_min_7cf53 10 = .ok (.ireturn, 1) := by decide +kernel
theorem dJ7_fill_d0a16_0 : decode cJ7_fill_d0a16 0 = .ok (.iconst 0, 1) := by decide +kernel
theorem dJ7_fill_d0a16_1 : decode cJ7_fill_d0a16 1 = .ok (.istore_n 3, 1) := by decide +kernel
theorem dJ7_fill_d0a16_2 : decode cJ7_fill_d0a16 2 = .ok (.aload_n 0, 1) := by decide +kernel
theorem dJ7_fill_d0a16_3 : decode cJ7_fill_d0a16 3 = .ok (.arraylength, 1) := by decide +kernel
theorem dJ7_fill_d0a16_4 : decode cJ7_fill_d0a16 4 = .ok (.istore 4, 2) := by decide +kernel
theorem dJ7_fill_d0a16_6 : decode cJ7_fill_d0a16 6 = .ok (.iload_n 3, 1) := by decide +kernel
theorem dJ7_fill_d0a16_7 : decode cJ7_fill_d0a16 7 = .ok (.iload 4, 2) := by decide +kernel
theorem dJ7_fill_d0a16_9 : decode cJ7_fill_d0a16 9 = .ok (.if_icmp .ge 13, 3) := by decide +kernel
theorem dJ7_fill_d0a16_12 : decode cJ7_fill_d0a16 12 = .ok (.aload_n 0, 1) := by decide +kernel
theorem dJ7_fill_d0a16_13 : decode cJ7_fill_d0a16 13 = .ok (.iload_n 3, 1) := by decide +kernel
theorem dJ7_fill_d0a16_14 : decode cJ7_fill_d0a16 14 = .ok (.lload_n 1, 1) := by decide +kernel
theorem dJ7_fill_d0a16_15 : decode cJ7_fill_d0a16 15 = .ok (.lastore, 1) := by decide +kernel
theorem dJ7_fill_d0a16_16 : decode cJ7_fill_d0a16 16 = .ok (.iinc 3 1, 3) := by decide +kernel
theorem dJ7_fill_d0a16_19 : decode cJ7_fill_d0a16 19 = .ok (.goto (-13), 3) := by decide +kernel
theorem dJ7_fill_d0a16_22 : decode cJ7_fill_d0a16 22 = .ok (.return_, 1) := by decide +kernel
theorem dJ7_fill_53178_0 : decode cJ7_fill_53178 0 = .ok (.iconst 0, 1) := by decide +kernel
theorem dJ7_fill_53178_1 : decode cJ7_fill_53178 1 = .ok (.istore_n 2, 1) := by decide +kernel
theorem dJ7_fill_53178_2 : decode cJ7_fill_53178 2 = .ok (.aload_n 0, 1) := by decide +kernel
theorem dJ7_fill_53178_3 : decode cJ7_fill_53178 3 = .ok (.arraylength, 1) := by decide +kernel
theorem dJ7_fill_53178_4 : decode cJ7_fill_53178 4 = .ok (.istore_n 3, 1) := by decide +kernel
theorem dJ7_fill_53178_5 : decode cJ7_fill_53178 5 = .ok (.iload_n 2, 1) := by decide +kernel
theorem dJ7_fill_53178_6 : decode cJ7_fill_53178 6 = .ok (.iload_n 3, 1) := by decide +kernel
theorem dJ7_fill_53178_7 : decode cJ7_fill_53178 7 = .ok (.if_icmp .ge 13, 3) := by decide +kernel
theorem dJ7_fill_53178_10 : decode cJ7_fill_53178 10 = .ok (.aload_n 0, 1) := by decide +kernel
theorem dJ7_fill_53178_11 : decode cJ7_fill_53178 11 = .ok (.iload_n 2, 1) := by decide +kernel
theorem dJ7_fill_53178_12 : decode cJ7_fill_53178 12 = .ok (.iload_n 1, 1) := by decide +kernel
theorem dJ7_fill_53178_13 : decode cJ7_fill_53178 13 = .ok (.iastore, 1) := by decide +kernel
theorem dJ7_fill_53178_14 : decode cJ7_fill_53178 14 = .ok (.iinc 2 1, 3) := by decide +kernel
theorem dJ7_fill_53178_17 : decode cJ7_fill_53178 17 = .ok (.goto (-12), 3) := by decide +kernel
theorem dJ7_fill_53178_20 : decode cJ7_fill_53178 20 = .ok (.return_, 1) := by decide +kernel
theorem dL_law_0 : decode code 0 = .ok (.new 7, 3) := by decide +kernel
theorem dL_law_3 : decode code 3 = .ok (.dup, 1) := by decide +kernel
theorem dL_law_4 : decode code 4 = .ok (.invokespecial 9, 3) := by decide +kernel
theorem dL_law_7 : decode code 7 = .ok (.astore_n 1, 1) := by decide +kernel
theorem dL_law_8 : decode code 8 = .ok (.new 10, 3) := by decide +kernel
theorem dL_law_11 : decode code 11 = .ok (.dup, 1) := by decide +kernel
theorem dL_law_12 : decode code 12 = .ok (.invokespecial 12, 3) := by decide +kernel
theorem dL_law_15 : decode code 15 = .ok (.astore_n 2, 1) := by decide +kernel
theorem dL_law_16 : decode code 16 = .ok (.iconst 0, 1) := by decide +kernel
theorem dL_law_17 : decode code 17 = .ok (.istore_n 3, 1) := by decide +kernel
theorem dL_law_18 : decode code 18 = .ok (.iload_n 3, 1) := by decide +kernel
theorem dL_law_19 : decode code 19 = .ok (.aload_n 0, 1) := by decide +kernel
theorem dL_law_20 : decode code 20 = .ok (.arraylength, 1) := by decide +kernel
theorem dL_law_21 : decode code 21 = .ok (.iconst 3, 1) := by decide +kernel
theorem dL_law_22 : decode code 22 = .ok (.isub, 1) := by decide +kernel
theorem dL_law_23 : decode code 23 = .ok (.if_icmp .gt 686, 3) := by decide +kernel
theorem dL_law_26 : decode code 26 = .ok (.aload_n 0, 1) := by decide +kernel
theorem dL_law_27 : decode code 27 = .ok (.iload_n 3, 1) := by decide +kernel
theorem dL_law_28 : decode code 28 = .ok (.iaload, 1) := by decide +kernel
theorem dL_law_29 : decode code 29 = .ok (.bipush 31, 2) := by decide +kernel
theorem dL_law_31 : decode code 31 = .ok (.iand, 1) := by decide +kernel
theorem dL_law_32 : decode code 32 = .ok (.tableswitch 671 0 21 #[104, 127, 140, 153, 176, 199, 222, 255, 288, 301, 334, 357, 380, 413, 446, 479, 502, 535, 558, 581, 614, 637], 104) := by decide +kernel
theorem dL_law_136 : decode code 136 = .ok (.aload_n 1, 1) := by decide +kernel
theorem dL_law_137 : decode code 137 = .ok (.aload_n 0, 1) := by decide +kernel
theorem dL_law_138 : decode code 138 = .ok (.iload_n 3, 1) := by decide +kernel
theorem dL_law_139 : decode code 139 = .ok (.iconst 1, 1) := by decide +kernel
theorem dL_law_140 : decode code 140 = .ok (.iadd, 1) := by decide +kernel
theorem dL_law_141 : decode code 141 = .ok (.iaload, 1) := by decide +kernel
theorem dL_law_142 : decode code 142 = .ok (.invokevirtual 13, 3) := by decide +kernel
theorem dL_law_145 : decode code 145 = .ok (.aload_n 2, 1) := by decide +kernel
theorem dL_law_146 : decode code 146 = .ok (.aload_n 0, 1) := by decide +kernel
theorem dL_law_147 : decode code 147 = .ok (.iload_n 3, 1) := by decide +kernel
theorem dL_law_148 : decode code 148 = .ok (.iconst 1, 1) := by decide +kernel
theorem dL_law_149 : decode code 149 = .ok (.iadd, 1) := by decide +kernel
theorem dL_law_150 : decode code 150 = .ok (.iaload, 1) := by decide +kernel
theorem dL_law_151 : decode code 151 = .ok (.invokevirtual 17, 3) := by decide +kernel
theorem dL_law_154 : decode code 154 = .ok (.if_icmp .eq 549, 3) := by decide +kernel
theorem dL_law_157 : decode code 157 = .ok (.iconst 0, 1) := by decide +kernel
theorem dL_law_158 : decode code 158 = .ok (.ireturn, 1) := by decide +kernel
theorem dL_law_159 : decode code 159 = .ok (.aload_n 1, 1) := by decide +kernel
theorem dL_law_160 : decode code 160 = .ok (.invokevirtual 18, 3) := by decide +kernel
theorem dL_law_163 : decode code 163 = .ok (.aload_n 2, 1) := by decide +kernel
theorem dL_law_164 : decode code 164 = .ok (.invokevirtual 22, 3) := by decide +kernel
theorem dL_law_167 : decode code 167 = .ok (.if_icmp .eq 536, 3) := by decide +kernel
theorem dL_law_170 : decode code 170 = .ok (.iconst 0, 1) := by decide +kernel
theorem dL_law_171 : decode code 171 = .ok (.ireturn, 1) := by decide +kernel
theorem dL_law_172 : decode code 172 = .ok (.aload_n 1, 1) := by decide +kernel
theorem dL_law_173 : decode code 173 = .ok (.invokevirtual 23, 3) := by decide +kernel
theorem dL_law_176 : decode code 176 = .ok (.aload_n 2, 1) := by decide +kernel
theorem dL_law_177 : decode code 177 = .ok (.invokevirtual 26, 3) := by decide +kernel
theorem dL_law_180 : decode code 180 = .ok (.if_icmp .eq 523, 3) := by decide +kernel
theorem dL_law_183 : decode code 183 = .ok (.iconst 0, 1) := by decide +kernel
theorem dL_law_184 : decode code 184 = .ok (.ireturn, 1) := by decide +kernel
theorem dL_law_185 : decode code 185 = .ok (.aload_n 1, 1) := by decide +kernel
theorem dL_law_186 : decode code 186 = .ok (.aload_n 0, 1) := by decide +kernel
theorem dL_law_187 : decode code 187 = .ok (.iload_n 3, 1) := by decide +kernel
theorem dL_law_188 : decode code 188 = .ok (.iconst 1, 1) := by decide +kernel
theorem dL_law_189 : decode code 189 = .ok (.iadd, 1) := by decide +kernel
theorem dL_law_190 : decode code 190 = .ok (.iaload, 1) := by decide +kernel
theorem dL_law_191 : decode code 191 = .ok (.invokevirtual 27, 3) := by decide +kernel
theorem dL_law_194 : decode code 194 = .ok (.aload_n 2, 1) := by decide +kernel
theorem dL_law_195 : decode code 195 = .ok (.aload_n 0, 1) := by decide +kernel
theorem dL_law_196 : decode code 196 = .ok (.iload_n 3, 1) := by decide +kernel
theorem dL_law_197 : decode code 197 = .ok (.iconst 1, 1) := by decide +kernel
theorem dL_law_198 : decode code 198 = .ok (.iadd, 1) := by decide +kernel
theorem dL_law_199 : decode code 199 = .ok (.iaload, 1) := by decide +kernel
theorem dL_law_200 : decode code 200 = .ok (.invokevirtual 30, 3) := by decide +kernel
theorem dL_law_203 : decode code 203 = .ok (.if_icmp .eq 500, 3) := by decide +kernel
theorem dL_law_206 : decode code 206 = .ok (.iconst 0, 1) := by decide +kernel
theorem dL_law_207 : decode code 207 = .ok (.ireturn, 1) := by decide +kernel
theorem dL_law_208 : decode code 208 = .ok (.aload_n 1, 1) := by decide +kernel
theorem dL_law_209 : decode code 209 = .ok (.aload_n 0, 1) := by decide +kernel
theorem dL_law_210 : decode code 210 = .ok (.iload_n 3, 1) := by decide +kernel
theorem dL_law_211 : decode code 211 = .ok (.iconst 1, 1) := by decide +kernel
theorem dL_law_212 : decode code 212 = .ok (.iadd, 1) := by decide +kernel
theorem dL_law_213 : decode code 213 = .ok (.iaload, 1) := by decide +kernel
theorem dL_law_214 : decode code 214 = .ok (.invokevirtual 31, 3) := by decide +kernel
theorem dL_law_217 : decode code 217 = .ok (.aload_n 2, 1) := by decide +kernel
theorem dL_law_218 : decode code 218 = .ok (.aload_n 0, 1) := by decide +kernel
theorem dL_law_219 : decode code 219 = .ok (.iload_n 3, 1) := by decide +kernel
theorem dL_law_220 : decode code 220 = .ok (.iconst 1, 1) := by decide +kernel
theorem dL_law_221 : decode code 221 = .ok (.iadd, 1) := by decide +kernel
theorem dL_law_222 : decode code 222 = .ok (.iaload, 1) := by decide +kernel
theorem dL_law_223 : decode code 223 = .ok (.invokevirtual 34, 3) := by decide +kernel
theorem dL_law_226 : decode code 226 = .ok (.if_icmp .eq 477, 3) := by decide +kernel
theorem dL_law_229 : decode code 229 = .ok (.iconst 0, 1) := by decide +kernel
theorem dL_law_230 : decode code 230 = .ok (.ireturn, 1) := by decide +kernel
theorem dL_law_231 : decode code 231 = .ok (.aload_n 1, 1) := by decide +kernel
theorem dL_law_232 : decode code 232 = .ok (.aload_n 0, 1) := by decide +kernel
theorem dL_law_233 : decode code 233 = .ok (.iload_n 3, 1) := by decide +kernel
theorem dL_law_234 : decode code 234 = .ok (.iconst 1, 1) := by decide +kernel
theorem dL_law_235 : decode code 235 = .ok (.iadd, 1) := by decide +kernel
theorem dL_law_236 : decode code 236 = .ok (.iaload, 1) := by decide +kernel
theorem dL_law_237 : decode code 237 = .ok (.invokevirtual 35, 3) := by decide +kernel
theorem dL_law_240 : decode code 240 = .ok (.aload_n 2, 1) := by decide +kernel
theorem dL_law_241 : decode code 241 = .ok (.aload_n 0, 1) := by decide +kernel
theorem dL_law_242 : decode code 242 = .ok (.iload_n 3, 1) := by decide +kernel
theorem dL_law_243 : decode code 243 = .ok (.iconst 1, 1) := by decide +kernel
theorem dL_law_244 : decode code 244 = .ok (.iadd, 1) := by decide +kernel
theorem dL_law_245 : decode code 245 = .ok (.iaload, 1) := by decide +kernel
theorem dL_law_246 : decode code 246 = .ok (.invokevirtual 38, 3) := by decide +kernel
theorem dL_law_249 : decode code 249 = .ok (.if_icmp .eq 454, 3) := by decide +kernel
theorem dL_law_252 : decode code 252 = .ok (.iconst 0, 1) := by decide +kernel
theorem dL_law_253 : decode code 253 = .ok (.ireturn, 1) := by decide +kernel
theorem dL_law_254 : decode code 254 = .ok (.aload_n 1, 1) := by decide +kernel
theorem dL_law_255 : decode code 255 = .ok (.aload_n 0, 1) := by decide +kernel
theorem dL_law_256 : decode code 256 = .ok (.iload_n 3, 1) := by decide +kernel
theorem dL_law_257 : decode code 257 = .ok (.iconst 1, 1) := by decide +kernel
theorem dL_law_258 : decode code 258 = .ok (.iadd, 1) := by decide +kernel
theorem dL_law_259 : decode code 259 = .ok (.iaload, 1) := by decide +kernel
theorem dL_law_260 : decode code 260 = .ok (.aload_n 0, 1) := by decide +kernel
theorem dL_law_261 : decode code 261 = .ok (.iload_n 3, 1) := by decide +kernel
theorem dL_law_262 : decode code 262 = .ok (.iconst 2, 1) := by decide +kernel
theorem dL_law_263 : decode code 263 = .ok (.iadd, 1) := by decide +kernel
theorem dL_law_264 : decode code 264 = .ok (.iaload, 1) := by decide +kernel
theorem dL_law_265 : decode code 265 = .ok (.invokevirtual 39, 3) := by decide +kernel
theorem dL_law_268 : decode code 268 = .ok (.aload_n 2, 1) := by decide +kernel
theorem dL_law_269 : decode code 269 = .ok (.aload_n 0, 1) := by decide +kernel
theorem dL_law_270 : decode code 270 = .ok (.iload_n 3, 1) := by decide +kernel
theorem dL_law_271 : decode code 271 = .ok (.iconst 1, 1) := by decide +kernel
theorem dL_law_272 : decode code 272 = .ok (.iadd, 1) := by decide +kernel
theorem dL_law_273 : decode code 273 = .ok (.iaload, 1) := by decide +kernel
theorem dL_law_274 : decode code 274 = .ok (.aload_n 0, 1) := by decide +kernel
theorem dL_law_275 : decode code 275 = .ok (.iload_n 3, 1) := by decide +kernel
theorem dL_law_276 : decode code 276 = .ok (.iconst 2, 1) := by decide +kernel
theorem dL_law_277 : decode code 277 = .ok (.iadd, 1) := by decide +kernel
theorem dL_law_278 : decode code 278 = .ok (.iaload, 1) := by decide +kernel
theorem dL_law_279 : decode code 279 = .ok (.invokevirtual 43, 3) := by decide +kernel
theorem dL_law_282 : decode code 282 = .ok (.if_icmp .eq 421, 3) := by decide +kernel
theorem dL_law_285 : decode code 285 = .ok (.iconst 0, 1) := by decide +kernel
theorem dL_law_286 : decode code 286 = .ok (.ireturn, 1) := by decide +kernel
theorem dL_law_287 : decode code 287 = .ok (.aload_n 1, 1) := by decide +kernel
theorem dL_law_288 : decode code 288 = .ok (.aload_n 0, 1) := by decide +kernel
theorem dL_law_289 : decode code 289 = .ok (.iload_n 3, 1) := by decide +kernel
theorem dL_law_290 : decode code 290 = .ok (.iconst 1, 1) := by decide +kernel
theorem dL_law_291 : decode code 291 = .ok (.iadd, 1) := by decide +kernel
theorem dL_law_292 : decode code 292 = .ok (.iaload, 1) := by decide +kernel
theorem dL_law_293 : decode code 293 = .ok (.aload_n 0, 1) := by decide +kernel
theorem dL_law_294 : decode code 294 = .ok (.iload_n 3, 1) := by decide +kernel
theorem dL_law_295 : decode code 295 = .ok (.iconst 2, 1) := by decide +kernel
theorem dL_law_296 : decode code 296 = .ok (.iadd, 1) := by decide +kernel
theorem dL_law_297 : decode code 297 = .ok (.iaload, 1) := by decide +kernel
theorem dL_law_298 : decode code 298 = .ok (.invokevirtual 44, 3) := by decide +kernel
theorem dL_law_301 : decode code 301 = .ok (.aload_n 2, 1) := by decide +kernel
theorem dL_law_302 : decode code 302 = .ok (.aload_n 0, 1) := by decide +kernel
theorem dL_law_303 : decode code 303 = .ok (.iload_n 3, 1) := by decide +kernel
theorem dL_law_304 : decode code 304 = .ok (.iconst 1, 1) := by decide +kernel
theorem dL_law_305 : decode code 305 = .ok (.iadd, 1) := by decide +kernel
theorem dL_law_306 : decode code 306 = .ok (.iaload, 1) := by decide +kernel
theorem dL_law_307 : decode code 307 = .ok (.aload_n 0, 1) := by decide +kernel
theorem dL_law_308 : decode code 308 = .ok (.iload_n 3, 1) := by decide +kernel
theorem dL_law_309 : decode code 309 = .ok (.iconst 2, 1) := by decide +kernel
theorem dL_law_310 : decode code 310 = .ok (.iadd, 1) := by decide +kernel
theorem dL_law_311 : decode code 311 = .ok (.iaload, 1) := by decide +kernel
theorem dL_law_312 : decode code 312 = .ok (.invokevirtual 47, 3) := by decide +kernel
theorem dL_law_315 : decode code 315 = .ok (.if_icmp .eq 388, 3) := by decide +kernel
theorem dL_law_318 : decode code 318 = .ok (.iconst 0, 1) := by decide +kernel
theorem dL_law_319 : decode code 319 = .ok (.ireturn, 1) := by decide +kernel
theorem dL_law_320 : decode code 320 = .ok (.aload_n 1, 1) := by decide +kernel
theorem dL_law_321 : decode code 321 = .ok (.invokevirtual 48, 3) := by decide +kernel
theorem dL_law_324 : decode code 324 = .ok (.aload_n 2, 1) := by decide +kernel
theorem dL_law_325 : decode code 325 = .ok (.invokevirtual 51, 3) := by decide +kernel
theorem dL_law_328 : decode code 328 = .ok (.if_icmp .eq 375, 3) := by decide +kernel
theorem dL_law_331 : decode code 331 = .ok (.iconst 0, 1) := by decide +kernel
theorem dL_law_332 : decode code 332 = .ok (.ireturn, 1) := by decide +kernel
theorem dL_law_333 : decode code 333 = .ok (.aload_n 1, 1) := by decide +kernel
theorem dL_law_334 : decode code 334 = .ok (.aload_n 0, 1) := by decide +kernel
theorem dL_law_335 : decode code 335 = .ok (.iload_n 3, 1) := by decide +kernel
theorem dL_law_336 : decode code 336 = .ok (.iconst 1, 1) := by decide +kernel
theorem dL_law_337 : decode code 337 = .ok (.iadd, 1) := by decide +kernel
theorem dL_law_338 : decode code 338 = .ok (.iaload, 1) := by decide +kernel
theorem dL_law_339 : decode code 339 = .ok (.aload_n 0, 1) := by decide +kernel
theorem dL_law_340 : decode code 340 = .ok (.iload_n 3, 1) := by decide +kernel
theorem dL_law_341 : decode code 341 = .ok (.iconst 2, 1) := by decide +kernel
theorem dL_law_342 : decode code 342 = .ok (.iadd, 1) := by decide +kernel
theorem dL_law_343 : decode code 343 = .ok (.iaload, 1) := by decide +kernel
theorem dL_law_344 : decode code 344 = .ok (.invokevirtual 52, 3) := by decide +kernel
theorem dL_law_347 : decode code 347 = .ok (.aload_n 2, 1) := by decide +kernel
theorem dL_law_348 : decode code 348 = .ok (.aload_n 0, 1) := by decide +kernel
theorem dL_law_349 : decode code 349 = .ok (.iload_n 3, 1) := by decide +kernel
theorem dL_law_350 : decode code 350 = .ok (.iconst 1, 1) := by decide +kernel
theorem dL_law_351 : decode code 351 = .ok (.iadd, 1) := by decide +kernel
theorem dL_law_352 : decode code 352 = .ok (.iaload, 1) := by decide +kernel
theorem dL_law_353 : decode code 353 = .ok (.aload_n 0, 1) := by decide +kernel
theorem dL_law_354 : decode code 354 = .ok (.iload_n 3, 1) := by decide +kernel
theorem dL_law_355 : decode code 355 = .ok (.iconst 2, 1) := by decide +kernel
theorem dL_law_356 : decode code 356 = .ok (.iadd, 1) := by decide +kernel
theorem dL_law_357 : decode code 357 = .ok (.iaload, 1) := by decide +kernel
theorem dL_law_358 : decode code 358 = .ok (.invokevirtual 55, 3) := by decide +kernel
theorem dL_law_361 : decode code 361 = .ok (.if_icmp .eq 342, 3) := by decide +kernel
theorem dL_law_364 : decode code 364 = .ok (.iconst 0, 1) := by decide +kernel
theorem dL_law_365 : decode code 365 = .ok (.ireturn, 1) := by decide +kernel
theorem dL_law_366 : decode code 366 = .ok (.aload_n 1, 1) := by decide +kernel
theorem dL_law_367 : decode code 367 = .ok (.aload_n 0, 1) := by decide +kernel
theorem dL_law_368 : decode code 368 = .ok (.iload_n 3, 1) := by decide +kernel
theorem dL_law_369 : decode code 369 = .ok (.iconst 1, 1) := by decide +kernel
theorem dL_law_370 : decode code 370 = .ok (.iadd, 1) := by decide +kernel
theorem dL_law_371 : decode code 371 = .ok (.iaload, 1) := by decide +kernel
theorem dL_law_372 : decode code 372 = .ok (.invokevirtual 56, 3) := by decide +kernel
theorem dL_law_375 : decode code 375 = .ok (.aload_n 2, 1) := by decide +kernel
theorem dL_law_376 : decode code 376 = .ok (.aload_n 0, 1) := by decide +kernel
theorem dL_law_377 : decode code 377 = .ok (.iload_n 3, 1) := by decide +kernel
theorem dL_law_378 : decode code 378 = .ok (.iconst 1, 1) := by decide +kernel
theorem dL_law_379 : decode code 379 = .ok (.iadd, 1) := by decide +kernel
theorem dL_law_380 : decode code 380 = .ok (.iaload, 1) := by decide +kernel
theorem dL_law_381 : decode code 381 = .ok (.invokevirtual 59, 3) := by decide +kernel
theorem dL_law_384 : decode code 384 = .ok (.if_icmp .eq 319, 3) := by decide +kernel
theorem dL_law_387 : decode code 387 = .ok (.iconst 0, 1) := by decide +kernel
theorem dL_law_388 : decode code 388 = .ok (.ireturn, 1) := by decide +kernel
theorem dL_law_389 : decode code 389 = .ok (.aload_n 1, 1) := by decide +kernel
theorem dL_law_390 : decode code 390 = .ok (.aload_n 0, 1) := by decide +kernel
theorem dL_law_391 : decode code 391 = .ok (.iload_n 3, 1) := by decide +kernel
theorem dL_law_392 : decode code 392 = .ok (.iconst 1, 1) := by decide +kernel
theorem dL_law_393 : decode code 393 = .ok (.iadd, 1) := by decide +kernel
theorem dL_law_394 : decode code 394 = .ok (.iaload, 1) := by decide +kernel
theorem dL_law_395 : decode code 395 = .ok (.invokevirtual 60, 3) := by decide +kernel
theorem dL_law_398 : decode code 398 = .ok (.aload_n 2, 1) := by decide +kernel
theorem dL_law_399 : decode code 399 = .ok (.aload_n 0, 1) := by decide +kernel
theorem dL_law_400 : decode code 400 = .ok (.iload_n 3, 1) := by decide +kernel
theorem dL_law_401 : decode code 401 = .ok (.iconst 1, 1) := by decide +kernel
theorem dL_law_402 : decode code 402 = .ok (.iadd, 1) := by decide +kernel
theorem dL_law_403 : decode code 403 = .ok (.iaload, 1) := by decide +kernel
theorem dL_law_404 : decode code 404 = .ok (.invokevirtual 63, 3) := by decide +kernel
theorem dL_law_407 : decode code 407 = .ok (.if_icmp .eq 296, 3) := by decide +kernel
theorem dL_law_410 : decode code 410 = .ok (.iconst 0, 1) := by decide +kernel
theorem dL_law_411 : decode code 411 = .ok (.ireturn, 1) := by decide +kernel
theorem dL_law_412 : decode code 412 = .ok (.aload_n 1, 1) := by decide +kernel
theorem dL_law_413 : decode code 413 = .ok (.aload_n 0, 1) := by decide +kernel
theorem dL_law_414 : decode code 414 = .ok (.iload_n 3, 1) := by decide +kernel
theorem dL_law_415 : decode code 415 = .ok (.iconst 1, 1) := by decide +kernel
theorem dL_law_416 : decode code 416 = .ok (.iadd, 1) := by decide +kernel
theorem dL_law_417 : decode code 417 = .ok (.iaload, 1) := by decide +kernel
theorem dL_law_418 : decode code 418 = .ok (.aload_n 0, 1) := by decide +kernel
theorem dL_law_419 : decode code 419 = .ok (.iload_n 3, 1) := by decide +kernel
theorem dL_law_420 : decode code 420 = .ok (.iconst 2, 1) := by decide +kernel
theorem dL_law_421 : decode code 421 = .ok (.iadd, 1) := by decide +kernel
theorem dL_law_422 : decode code 422 = .ok (.iaload, 1) := by decide +kernel
theorem dL_law_423 : decode code 423 = .ok (.invokevirtual 64, 3) := by decide +kernel
theorem dL_law_426 : decode code 426 = .ok (.aload_n 2, 1) := by decide +kernel
theorem dL_law_427 : decode code 427 = .ok (.aload_n 0, 1) := by decide +kernel
theorem dL_law_428 : decode code 428 = .ok (.iload_n 3, 1) := by decide +kernel
theorem dL_law_429 : decode code 429 = .ok (.iconst 1, 1) := by decide +kernel
theorem dL_law_430 : decode code 430 = .ok (.iadd, 1) := by decide +kernel
theorem dL_law_431 : decode code 431 = .ok (.iaload, 1) := by decide +kernel
theorem dL_law_432 : decode code 432 = .ok (.aload_n 0, 1) := by decide +kernel
theorem dL_law_433 : decode code 433 = .ok (.iload_n 3, 1) := by decide +kernel
theorem dL_law_434 : decode code 434 = .ok (.iconst 2, 1) := by decide +kernel
theorem dL_law_435 : decode code 435 = .ok (.iadd, 1) := by decide +kernel
theorem dL_law_436 : decode code 436 = .ok (.iaload, 1) := by decide +kernel
theorem dL_law_437 : decode code 437 = .ok (.invokevirtual 67, 3) := by decide +kernel
theorem dL_law_440 : decode code 440 = .ok (.if_icmp .eq 263, 3) := by decide +kernel
theorem dL_law_443 : decode code 443 = .ok (.iconst 0, 1) := by decide +kernel
theorem dL_law_444 : decode code 444 = .ok (.ireturn, 1) := by decide +kernel
theorem dL_law_445 : decode code 445 = .ok (.aload_n 1, 1) := by decide +kernel
theorem dL_law_446 : decode code 446 = .ok (.aload_n 0, 1) := by decide +kernel
theorem dL_law_447 : decode code 447 = .ok (.iload_n 3, 1) := by decide +kernel
theorem dL_law_448 : decode code 448 = .ok (.iconst 1, 1) := by decide +kernel
theorem dL_law_449 : decode code 449 = .ok (.iadd, 1) := by decide +kernel
theorem dL_law_450 : decode code 450 = .ok (.iaload, 1) := by decide +kernel
theorem dL_law_451 : decode code 451 = .ok (.aload_n 0, 1) := by decide +kernel
theorem dL_law_452 : decode code 452 = .ok (.iload_n 3, 1) := by decide +kernel
theorem dL_law_453 : decode code 453 = .ok (.iconst 2, 1) := by decide +kernel
theorem dL_law_454 : decode code 454 = .ok (.iadd, 1) := by decide +kernel
theorem dL_law_455 : decode code 455 = .ok (.iaload, 1) := by decide +kernel
theorem dL_law_456 : decode code 456 = .ok (.invokevirtual 68, 3) := by decide +kernel
theorem dL_law_459 : decode code 459 = .ok (.aload_n 2, 1) := by decide +kernel
theorem dL_law_460 : decode code 460 = .ok (.aload_n 0, 1) := by decide +kernel
theorem dL_law_461 : decode code 461 = .ok (.iload_n 3, 1) := by decide +kernel
theorem dL_law_462 : decode code 462 = .ok (.iconst 1, 1) := by decide +kernel
theorem dL_law_463 : decode code 463 = .ok (.iadd, 1) := by decide +kernel
theorem dL_law_464 : decode code 464 = .ok (.iaload, 1) := by decide +kernel
theorem dL_law_465 : decode code 465 = .ok (.aload_n 0, 1) := by decide +kernel
theorem dL_law_466 : decode code 466 = .ok (.iload_n 3, 1) := by decide +kernel
theorem dL_law_467 : decode code 467 = .ok (.iconst 2, 1) := by decide +kernel
theorem dL_law_468 : decode code 468 = .ok (.iadd, 1) := by decide +kernel
theorem dL_law_469 : decode code 469 = .ok (.iaload, 1) := by decide +kernel
theorem dL_law_470 : decode code 470 = .ok (.invokevirtual 71, 3) := by decide +kernel
theorem dL_law_473 : decode code 473 = .ok (.if_icmp .eq 230, 3) := by decide +kernel
theorem dL_law_476 : decode code 476 = .ok (.iconst 0, 1) := by decide +kernel
theorem dL_law_477 : decode code 477 = .ok (.ireturn, 1) := by decide +kernel
theorem dL_law_478 : decode code 478 = .ok (.aload_n 1, 1) := by decide +kernel
theorem dL_law_479 : decode code 479 = .ok (.aload_n 0, 1) := by decide +kernel
theorem dL_law_480 : decode code 480 = .ok (.iload_n 3, 1) := by decide +kernel
theorem dL_law_481 : decode code 481 = .ok (.iconst 1, 1) := by decide +kernel
theorem dL_law_482 : decode code 482 = .ok (.iadd, 1) := by decide +kernel
theorem dL_law_483 : decode code 483 = .ok (.iaload, 1) := by decide +kernel
theorem dL_law_484 : decode code 484 = .ok (.aload_n 0, 1) := by decide +kernel
theorem dL_law_485 : decode code 485 = .ok (.iload_n 3, 1) := by decide +kernel
theorem dL_law_486 : decode code 486 = .ok (.iconst 2, 1) := by decide +kernel
theorem dL_law_487 : decode code 487 = .ok (.iadd, 1) := by decide +kernel
theorem dL_law_488 : decode code 488 = .ok (.iaload, 1) := by decide +kernel
theorem dL_law_489 : decode code 489 = .ok (.invokevirtual 72, 3) := by decide +kernel
theorem dL_law_492 : decode code 492 = .ok (.aload_n 2, 1) := by decide +kernel
theorem dL_law_493 : decode code 493 = .ok (.aload_n 0, 1) := by decide +kernel
theorem dL_law_494 : decode code 494 = .ok (.iload_n 3, 1) := by decide +kernel
theorem dL_law_495 : decode code 495 = .ok (.iconst 1, 1) := by decide +kernel
theorem dL_law_496 : decode code 496 = .ok (.iadd, 1) := by decide +kernel
theorem dL_law_497 : decode code 497 = .ok (.iaload, 1) := by decide +kernel
theorem dL_law_498 : decode code 498 = .ok (.aload_n 0, 1) := by decide +kernel
theorem dL_law_499 : decode code 499 = .ok (.iload_n 3, 1) := by decide +kernel
theorem dL_law_500 : decode code 500 = .ok (.iconst 2, 1) := by decide +kernel
theorem dL_law_501 : decode code 501 = .ok (.iadd, 1) := by decide +kernel
theorem dL_law_502 : decode code 502 = .ok (.iaload, 1) := by decide +kernel
theorem dL_law_503 : decode code 503 = .ok (.invokevirtual 75, 3) := by decide +kernel
theorem dL_law_506 : decode code 506 = .ok (.if_icmp .eq 197, 3) := by decide +kernel
theorem dL_law_509 : decode code 509 = .ok (.iconst 0, 1) := by decide +kernel
theorem dL_law_510 : decode code 510 = .ok (.ireturn, 1) := by decide +kernel
theorem dL_law_511 : decode code 511 = .ok (.aload_n 1, 1) := by decide +kernel
theorem dL_law_512 : decode code 512 = .ok (.aload_n 0, 1) := by decide +kernel
theorem dL_law_513 : decode code 513 = .ok (.iload_n 3, 1) := by decide +kernel
theorem dL_law_514 : decode code 514 = .ok (.iconst 1, 1) := by decide +kernel
theorem dL_law_515 : decode code 515 = .ok (.iadd, 1) := by decide +kernel
theorem dL_law_516 : decode code 516 = .ok (.iaload, 1) := by decide +kernel
theorem dL_law_517 : decode code 517 = .ok (.invokevirtual 76, 3) := by decide +kernel
theorem dL_law_520 : decode code 520 = .ok (.aload_n 2, 1) := by decide +kernel
theorem dL_law_521 : decode code 521 = .ok (.aload_n 0, 1) := by decide +kernel
theorem dL_law_522 : decode code 522 = .ok (.iload_n 3, 1) := by decide +kernel
theorem dL_law_523 : decode code 523 = .ok (.iconst 1, 1) := by decide +kernel
theorem dL_law_524 : decode code 524 = .ok (.iadd, 1) := by decide +kernel
theorem dL_law_525 : decode code 525 = .ok (.iaload, 1) := by decide +kernel
theorem dL_law_526 : decode code 526 = .ok (.invokevirtual 79, 3) := by decide +kernel
theorem dL_law_529 : decode code 529 = .ok (.if_icmp .eq 174, 3) := by decide +kernel
theorem dL_law_532 : decode code 532 = .ok (.iconst 0, 1) := by decide +kernel
theorem dL_law_533 : decode code 533 = .ok (.ireturn, 1) := by decide +kernel
theorem dL_law_534 : decode code 534 = .ok (.aload_n 1, 1) := by decide +kernel
theorem dL_law_535 : decode code 535 = .ok (.aload_n 0, 1) := by decide +kernel
theorem dL_law_536 : decode code 536 = .ok (.iload_n 3, 1) := by decide +kernel
theorem dL_law_537 : decode code 537 = .ok (.iconst 1, 1) := by decide +kernel
theorem dL_law_538 : decode code 538 = .ok (.iadd, 1) := by decide +kernel
theorem dL_law_539 : decode code 539 = .ok (.iaload, 1) := by decide +kernel
theorem dL_law_540 : decode code 540 = .ok (.aload_n 0, 1) := by decide +kernel
theorem dL_law_541 : decode code 541 = .ok (.iload_n 3, 1) := by decide +kernel
theorem dL_law_542 : decode code 542 = .ok (.iconst 2, 1) := by decide +kernel
theorem dL_law_543 : decode code 543 = .ok (.iadd, 1) := by decide +kernel
theorem dL_law_544 : decode code 544 = .ok (.iaload, 1) := by decide +kernel
theorem dL_law_545 : decode code 545 = .ok (.invokevirtual 80, 3) := by decide +kernel
theorem dL_law_548 : decode code 548 = .ok (.aload_n 2, 1) := by decide +kernel
theorem dL_law_549 : decode code 549 = .ok (.aload_n 0, 1) := by decide +kernel
theorem dL_law_550 : decode code 550 = .ok (.iload_n 3, 1) := by decide +kernel
theorem dL_law_551 : decode code 551 = .ok (.iconst 1, 1) := by decide +kernel
theorem dL_law_552 : decode code 552 = .ok (.iadd, 1) := by decide +kernel
theorem dL_law_553 : decode code 553 = .ok (.iaload, 1) := by decide +kernel
theorem dL_law_554 : decode code 554 = .ok (.aload_n 0, 1) := by decide +kernel
theorem dL_law_555 : decode code 555 = .ok (.iload_n 3, 1) := by decide +kernel
theorem dL_law_556 : decode code 556 = .ok (.iconst 2, 1) := by decide +kernel
theorem dL_law_557 : decode code 557 = .ok (.iadd, 1) := by decide +kernel
theorem dL_law_558 : decode code 558 = .ok (.iaload, 1) := by decide +kernel
theorem dL_law_559 : decode code 559 = .ok (.invokevirtual 83, 3) := by decide +kernel
theorem dL_law_562 : decode code 562 = .ok (.if_icmp .eq 141, 3) := by decide +kernel
theorem dL_law_565 : decode code 565 = .ok (.iconst 0, 1) := by decide +kernel
theorem dL_law_566 : decode code 566 = .ok (.ireturn, 1) := by decide +kernel
theorem dL_law_567 : decode code 567 = .ok (.aload_n 1, 1) := by decide +kernel
theorem dL_law_568 : decode code 568 = .ok (.aload_n 0, 1) := by decide +kernel
theorem dL_law_569 : decode code 569 = .ok (.iload_n 3, 1) := by decide +kernel
theorem dL_law_570 : decode code 570 = .ok (.iconst 1, 1) := by decide +kernel
theorem dL_law_571 : decode code 571 = .ok (.iadd, 1) := by decide +kernel
theorem dL_law_572 : decode code 572 = .ok (.iaload, 1) := by decide +kernel
theorem dL_law_573 : decode code 573 = .ok (.invokevirtual 84, 3) := by decide +kernel
theorem dL_law_576 : decode code 576 = .ok (.aload_n 2, 1) := by decide +kernel
theorem dL_law_577 : decode code 577 = .ok (.aload_n 0, 1) := by decide +kernel
theorem dL_law_578 : decode code 578 = .ok (.iload_n 3, 1) := by decide +kernel
theorem dL_law_579 : decode code 579 = .ok (.iconst 1, 1) := by decide +kernel
theorem dL_law_580 : decode code 580 = .ok (.iadd, 1) := by decide +kernel
theorem dL_law_581 : decode code 581 = .ok (.iaload, 1) := by decide +kernel
theorem dL_law_582 : decode code 582 = .ok (.invokevirtual 87, 3) := by decide +kernel
theorem dL_law_585 : decode code 585 = .ok (.if_icmp .eq 118, 3) := by decide +kernel
theorem dL_law_588 : decode code 588 = .ok (.iconst 0, 1) := by decide +kernel
theorem dL_law_589 : decode code 589 = .ok (.ireturn, 1) := by decide +kernel
theorem dL_law_590 : decode code 590 = .ok (.aload_n 1, 1) := by decide +kernel
theorem dL_law_591 : decode code 591 = .ok (.aload_n 0, 1) := by decide +kernel
theorem dL_law_592 : decode code 592 = .ok (.iload_n 3, 1) := by decide +kernel
theorem dL_law_593 : decode code 593 = .ok (.iconst 1, 1) := by decide +kernel
theorem dL_law_594 : decode code 594 = .ok (.iadd, 1) := by decide +kernel
theorem dL_law_595 : decode code 595 = .ok (.iaload, 1) := by decide +kernel
theorem dL_law_596 : decode code 596 = .ok (.invokevirtual 88, 3) := by decide +kernel
theorem dL_law_599 : decode code 599 = .ok (.aload_n 2, 1) := by decide +kernel
theorem dL_law_600 : decode code 600 = .ok (.aload_n 0, 1) := by decide +kernel
theorem dL_law_601 : decode code 601 = .ok (.iload_n 3, 1) := by decide +kernel
theorem dL_law_602 : decode code 602 = .ok (.iconst 1, 1) := by decide +kernel
theorem dL_law_603 : decode code 603 = .ok (.iadd, 1) := by decide +kernel
theorem dL_law_604 : decode code 604 = .ok (.iaload, 1) := by decide +kernel
theorem dL_law_605 : decode code 605 = .ok (.invokevirtual 91, 3) := by decide +kernel
theorem dL_law_608 : decode code 608 = .ok (.if_icmp .eq 95, 3) := by decide +kernel
theorem dL_law_611 : decode code 611 = .ok (.iconst 0, 1) := by decide +kernel
theorem dL_law_612 : decode code 612 = .ok (.ireturn, 1) := by decide +kernel
theorem dL_law_613 : decode code 613 = .ok (.aload_n 1, 1) := by decide +kernel
theorem dL_law_614 : decode code 614 = .ok (.aload_n 0, 1) := by decide +kernel
theorem dL_law_615 : decode code 615 = .ok (.iload_n 3, 1) := by decide +kernel
theorem dL_law_616 : decode code 616 = .ok (.iconst 1, 1) := by decide +kernel
theorem dL_law_617 : decode code 617 = .ok (.iadd, 1) := by decide +kernel
theorem dL_law_618 : decode code 618 = .ok (.iaload, 1) := by decide +kernel
theorem dL_law_619 : decode code 619 = .ok (.aload_n 0, 1) := by decide +kernel
theorem dL_law_620 : decode code 620 = .ok (.iload_n 3, 1) := by decide +kernel
theorem dL_law_621 : decode code 621 = .ok (.iconst 2, 1) := by decide +kernel
theorem dL_law_622 : decode code 622 = .ok (.iadd, 1) := by decide +kernel
theorem dL_law_623 : decode code 623 = .ok (.iaload, 1) := by decide +kernel
theorem dL_law_624 : decode code 624 = .ok (.invokevirtual 92, 3) := by decide +kernel
theorem dL_law_627 : decode code 627 = .ok (.aload_n 2, 1) := by decide +kernel
theorem dL_law_628 : decode code 628 = .ok (.aload_n 0, 1) := by decide +kernel
theorem dL_law_629 : decode code 629 = .ok (.iload_n 3, 1) := by decide +kernel
theorem dL_law_630 : decode code 630 = .ok (.iconst 1, 1) := by decide +kernel
theorem dL_law_631 : decode code 631 = .ok (.iadd, 1) := by decide +kernel
theorem dL_law_632 : decode code 632 = .ok (.iaload, 1) := by decide +kernel
theorem dL_law_633 : decode code 633 = .ok (.aload_n 0, 1) := by decide +kernel
theorem dL_law_634 : decode code 634 = .ok (.iload_n 3, 1) := by decide +kernel
theorem dL_law_635 : decode code 635 = .ok (.iconst 2, 1) := by decide +kernel
theorem dL_law_636 : decode code 636 = .ok (.iadd, 1) := by decide +kernel
theorem dL_law_637 : decode code 637 = .ok (.iaload, 1) := by decide +kernel
theorem dL_law_638 : decode code 638 = .ok (.invokevirtual 95, 3) := by decide +kernel
theorem dL_law_641 : decode code 641 = .ok (.if_icmp .eq 62, 3) := by decide +kernel
theorem dL_law_644 : decode code 644 = .ok (.iconst 0, 1) := by decide +kernel
theorem dL_law_645 : decode code 645 = .ok (.ireturn, 1) := by decide +kernel
theorem dL_law_646 : decode code 646 = .ok (.aload_n 1, 1) := by decide +kernel
theorem dL_law_647 : decode code 647 = .ok (.aload_n 0, 1) := by decide +kernel
theorem dL_law_648 : decode code 648 = .ok (.iload_n 3, 1) := by decide +kernel
theorem dL_law_649 : decode code 649 = .ok (.iconst 1, 1) := by decide +kernel
theorem dL_law_650 : decode code 650 = .ok (.iadd, 1) := by decide +kernel
theorem dL_law_651 : decode code 651 = .ok (.iaload, 1) := by decide +kernel
theorem dL_law_652 : decode code 652 = .ok (.invokevirtual 96, 3) := by decide +kernel
theorem dL_law_655 : decode code 655 = .ok (.aload_n 2, 1) := by decide +kernel
theorem dL_law_656 : decode code 656 = .ok (.aload_n 0, 1) := by decide +kernel
theorem dL_law_657 : decode code 657 = .ok (.iload_n 3, 1) := by decide +kernel
theorem dL_law_658 : decode code 658 = .ok (.iconst 1, 1) := by decide +kernel
theorem dL_law_659 : decode code 659 = .ok (.iadd, 1) := by decide +kernel
theorem dL_law_660 : decode code 660 = .ok (.iaload, 1) := by decide +kernel
theorem dL_law_661 : decode code 661 = .ok (.invokevirtual 99, 3) := by decide +kernel
theorem dL_law_664 : decode code 664 = .ok (.if_icmp .eq 39, 3) := by decide +kernel
theorem dL_law_667 : decode code 667 = .ok (.iconst 0, 1) := by decide +kernel
theorem dL_law_668 : decode code 668 = .ok (.ireturn, 1) := by decide +kernel
theorem dL_law_669 : decode code 669 = .ok (.aload_n 1, 1) := by decide +kernel
theorem dL_law_670 : decode code 670 = .ok (.aload_n 0, 1) := by decide +kernel
theorem dL_law_671 : decode code 671 = .ok (.iload_n 3, 1) := by decide +kernel
theorem dL_law_672 : decode code 672 = .ok (.iconst 1, 1) := by decide +kernel
theorem dL_law_673 : decode code 673 = .ok (.iadd, 1) := by decide +kernel
theorem dL_law_674 : decode code 674 = .ok (.iaload, 1) := by decide +kernel
theorem dL_law_675 : decode code 675 = .ok (.aload_n 0, 1) := by decide +kernel
theorem dL_law_676 : decode code 676 = .ok (.iload_n 3, 1) := by decide +kernel
theorem dL_law_677 : decode code 677 = .ok (.iconst 2, 1) := by decide +kernel
theorem dL_law_678 : decode code 678 = .ok (.iadd, 1) := by decide +kernel
theorem dL_law_679 : decode code 679 = .ok (.iaload, 1) := by decide +kernel
theorem dL_law_680 : decode code 680 = .ok (.invokevirtual 100, 3) := by decide +kernel
theorem dL_law_683 : decode code 683 = .ok (.aload_n 2, 1) := by decide +kernel
theorem dL_law_684 : decode code 684 = .ok (.aload_n 0, 1) := by decide +kernel
theorem dL_law_685 : decode code 685 = .ok (.iload_n 3, 1) := by decide +kernel
theorem dL_law_686 : decode code 686 = .ok (.iconst 1, 1) := by decide +kernel
theorem dL_law_687 : decode code 687 = .ok (.iadd, 1) := by decide +kernel
theorem dL_law_688 : decode code 688 = .ok (.iaload, 1) := by decide +kernel
theorem dL_law_689 : decode code 689 = .ok (.aload_n 0, 1) := by decide +kernel
theorem dL_law_690 : decode code 690 = .ok (.iload_n 3, 1) := by decide +kernel
theorem dL_law_691 : decode code 691 = .ok (.iconst 2, 1) := by decide +kernel
theorem dL_law_692 : decode code 692 = .ok (.iadd, 1) := by decide +kernel
theorem dL_law_693 : decode code 693 = .ok (.iaload, 1) := by decide +kernel
theorem dL_law_694 : decode code 694 = .ok (.invokevirtual 104, 3) := by decide +kernel
theorem dL_law_697 : decode code 697 = .ok (.lcmp, 1) := by decide +kernel
theorem dL_law_698 : decode code 698 = .ok (.ifCond .eq 5, 3) := by decide +kernel
theorem dL_law_701 : decode code 701 = .ok (.iconst 0, 1) := by decide +kernel
theorem dL_law_702 : decode code 702 = .ok (.ireturn, 1) := by decide +kernel
theorem dL_law_703 : decode code 703 = .ok (.iinc 3 3, 3) := by decide +kernel
theorem dL_law_706 : decode code 706 = .ok (.goto (-688), 3) := by decide +kernel
theorem dL_law_709 : decode code 709 = .ok (.iconst 1, 1) := by decide +kernel
theorem dL_law_710 : decode code 710 = .ok (.ireturn, 1) := by decide +kernel
