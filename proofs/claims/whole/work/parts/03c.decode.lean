-- printed by wip/whole/gen1.py
theorem dX10_leadsOutWithout_30 : decode cX10_leadsOutWithout 30 = .ok (.aload_n 0, 1) := by decide +kernel
theorem dX10_leadsOutWithout_31 : decode cX10_leadsOutWithout 31 = .ok (.getfield 75, 3) := by decide +kernel
theorem dX10_leadsOutWithout_34 : decode cX10_leadsOutWithout 34 = .ok (.getfield 368, 3) := by decide +kernel
theorem dX10_leadsOutWithout_37 : decode cX10_leadsOutWithout 37 = .ok (.iload_n 2, 1) := by decide +kernel
theorem dX10_leadsOutWithout_38 : decode cX10_leadsOutWithout 38 = .ok (.iconst 1, 1) := by decide +kernel
theorem dX10_leadsOutWithout_39 : decode cX10_leadsOutWithout 39 = .ok (.iadd, 1) := by decide +kernel
theorem dX10_leadsOutWithout_40 : decode cX10_leadsOutWithout 40 = .ok (.iaload, 1) := by decide +kernel
theorem dX10_leadsOutWithout_41 : decode cX10_leadsOutWithout 41 = .ok (.if_icmp .ge 76, 3) := by decide +kernel
theorem dX10_leadsOutWithout_44 : decode cX10_leadsOutWithout 44 = .ok (.aload_n 0, 1) := by decide +kernel
theorem dX10_leadsOutWithout_45 : decode cX10_leadsOutWithout 45 = .ok (.getfield 75, 3) := by decide +kernel
theorem dX10_leadsOutWithout_48 : decode cX10_leadsOutWithout 48 = .ok (.getfield 371, 3) := by decide +kernel
theorem dX10_leadsOutWithout_51 : decode cX10_leadsOutWithout 51 = .ok (.iload 4, 2) := by decide +kernel
theorem dX10_leadsOutWithout_53 : decode cX10_leadsOutWithout 53 = .ok (.iaload, 1) := by decide +kernel
theorem dX10_leadsOutWithout_54 : decode cX10_leadsOutWithout 54 = .ok (.istore 5, 2) := by decide +kernel
theorem dX10_leadsOutWithout_56 : decode cX10_leadsOutWithout 56 = .ok (.aload_n 0, 1) := by decide +kernel
theorem dX10_leadsOutWithout_57 : decode cX10_leadsOutWithout 57 = .ok (.getfield 75, 3) := by decide +kernel
theorem dX10_leadsOutWithout_60 : decode cX10_leadsOutWithout 60 = .ok (.getfield 132, 3) := by decide +kernel
theorem dX10_leadsOutWithout_63 : decode cX10_leadsOutWithout 63 = .ok (.iload 5, 2) := by decide +kernel
theorem dX10_leadsOutWithout_65 : decode cX10_leadsOutWithout 65 = .ok (.invokestatic 135, 3) := by decide +kernel
theorem dX10_leadsOutWithout_68 : decode cX10_leadsOutWithout 68 = .ok (.ifCond .ne 43, 3) := by decide +kernel
theorem dX10_leadsOutWithout_71 : decode cX10_leadsOutWithout 71 = .ok (.aload_n 0, 1) := by decide +kernel
theorem dX10_leadsOutWithout_72 : decode cX10_leadsOutWithout 72 = .ok (.getfield 75, 3) := by decide +kernel
theorem dX10_leadsOutWithout_75 : decode cX10_leadsOutWithout 75 = .ok (.iload 5, 2) := by decide +kernel
theorem dX10_leadsOutWithout_77 : decode cX10_leadsOutWithout 77 = .ok (.iload_n 3, 1) := by decide +kernel
theorem dX10_leadsOutWithout_78 : decode cX10_leadsOutWithout 78 = .ok (.iconst 1, 1) := by decide +kernel
theorem dX10_leadsOutWithout_79 : decode cX10_leadsOutWithout 79 = .ok (.iload_n 1, 1) := by decide +kernel
theorem dX10_leadsOutWithout_80 : decode cX10_leadsOutWithout 80 = .ok (.ishl, 1) := by decide +kernel
theorem dX10_leadsOutWithout_81 : decode cX10_leadsOutWithout 81 = .ok (.invokevirtual 374, 3) := by decide +kernel
theorem dX10_leadsOutWithout_84 : decode cX10_leadsOutWithout 84 = .ok (.ifCond .eq 27, 3) := by decide +kernel
theorem dX10_leadsOutWithout_87 : decode cX10_leadsOutWithout 87 = .ok (.aload_n 0, 1) := by decide +kernel
theorem dX10_leadsOutWithout_88 : decode cX10_leadsOutWithout 88 = .ok (.getfield 33, 3) := by decide +kernel
theorem dX10_leadsOutWithout_91 : decode cX10_leadsOutWithout 91 = .ok (.getfield 377, 3) := by decide +kernel
theorem dX10_leadsOutWithout_94 : decode cX10_leadsOutWithout 94 = .ok (.aload_n 0, 1) := by decide +kernel
theorem dX10_leadsOutWithout_95 : decode cX10_leadsOutWithout 95 = .ok (.getfield 75, 3) := by decide +kernel
theorem dX10_leadsOutWithout_98 : decode cX10_leadsOutWithout 98 = .ok (.iload 5, 2) := by decide +kernel
theorem dX10_leadsOutWithout_100 : decode cX10_leadsOutWithout 100 = .ok (.iload_n 3, 1) := by decide +kernel
theorem dX10_leadsOutWithout_101 : decode cX10_leadsOutWithout 101 = .ok (.invokevirtual 380, 3) := by decide +kernel
theorem dX10_leadsOutWithout_104 : decode cX10_leadsOutWithout 104 = .ok (.iaload, 1) := by decide +kernel
theorem dX10_leadsOutWithout_105 : decode cX10_leadsOutWithout 105 = .ok (.iconst (-1), 1) := by decide +kernel
theorem dX10_leadsOutWithout_106 : decode cX10_leadsOutWithout 106 = .ok (.if_icmp .ne 5, 3) := by decide +kernel
theorem dX10_leadsOutWithout_109 : decode cX10_leadsOutWithout 109 = .ok (.iconst 1, 1) := by decide +kernel
theorem dX10_leadsOutWithout_110 : decode cX10_leadsOutWithout 110 = .ok (.ireturn, 1) := by decide +kernel
theorem dX10_leadsOutWithout_111 : decode cX10_leadsOutWithout 111 = .ok (.iinc 4 1, 3) := by decide +kernel
theorem dX10_leadsOutWithout_114 : decode cX10_leadsOutWithout 114 = .ok (.goto (-86), 3) := by decide +kernel
theorem dX10_leadsOutWithout_117 : decode cX10_leadsOutWithout 117 = .ok (.iconst 0, 1) := by decide +kernel
theorem dX10_leadsOutWithout_118 : decode cX10_leadsOutWithout 118 = .ok (.ireturn, 1) := by decide +kernel
theorem dX11_init_0 : decode cX11_init 0 = .ok (.aload_n 0, 1) := by decide +kernel
theorem dX11_init_1 : decode cX11_init 1 = .ok (.invokespecial 1, 3) := by decide +kernel
theorem dX11_init_4 : decode cX11_init 4 = .ok (.aload_n 0, 1) := by decide +kernel
theorem dX11_init_5 : decode cX11_init 5 = .ok (.bipush 32, 2) := by decide +kernel
theorem dX11_init_7 : decode cX11_init 7 = .ok (.newarray .int, 2) := by decide +kernel
theorem dX11_init_9 : decode cX11_init 9 = .ok (.putfield 7, 3) := by decide +kernel
theorem dX11_init_12 : decode cX11_init 12 = .ok (.aload_n 0, 1) := by decide +kernel
theorem dX11_init_13 : decode cX11_init 13 = .ok (.bipush 32, 2) := by decide +kernel
theorem dX11_init_15 : decode cX11_init 15 = .ok (.newarray .int, 2) := by decide +kernel
theorem dX11_init_17 : decode cX11_init 17 = .ok (.putfield 13, 3) := by decide +kernel
theorem dX11_init_20 : decode cX11_init 20 = .ok (.aload_n 0, 1) := by decide +kernel
theorem dX11_init_21 : decode cX11_init 21 = .ok (.bipush 32, 2) := by decide +kernel
theorem dX11_init_23 : decode cX11_init 23 = .ok (.newarray .int, 2) := by decide +kernel
theorem dX11_init_25 : decode cX11_init 25 = .ok (.putfield 16, 3) := by decide +kernel
theorem dX11_init_28 : decode cX11_init 28 = .ok (.aload_n 0, 1) := by decide +kernel
theorem dX11_init_29 : decode cX11_init 29 = .ok (.bipush 32, 2) := by decide +kernel
theorem dX11_init_31 : decode cX11_init 31 = .ok (.newarray .int, 2) := by decide +kernel
theorem dX11_init_33 : decode cX11_init 33 = .ok (.putfield 19, 3) := by decide +kernel
theorem dX11_init_36 : decode cX11_init 36 = .ok (.aload_n 0, 1) := by decide +kernel
theorem dX11_init_37 : decode cX11_init 37 = .ok (.bipush 96, 2) := by decide +kernel
theorem dX11_init_39 : decode cX11_init 39 = .ok (.newarray .int, 2) := by decide +kernel
theorem dX11_init_41 : decode cX11_init 41 = .ok (.putfield 22, 3) := by decide +kernel
theorem dX11_init_44 : decode cX11_init 44 = .ok (.aload_n 0, 1) := by decide +kernel
theorem dX11_init_45 : decode cX11_init 45 = .ok (.bipush 96, 2) := by decide +kernel
theorem dX11_init_47 : decode cX11_init 47 = .ok (.newarray .int, 2) := by decide +kernel
theorem dX11_init_49 : decode cX11_init 49 = .ok (.putfield 25, 3) := by decide +kernel
theorem dX11_init_52 : decode cX11_init 52 = .ok (.aload_n 0, 1) := by decide +kernel
theorem dX11_init_53 : decode cX11_init 53 = .ok (.bipush 32, 2) := by decide +kernel
theorem dX11_init_55 : decode cX11_init 55 = .ok (.newarray .int, 2) := by decide +kernel
theorem dX11_init_57 : decode cX11_init 57 = .ok (.putfield 28, 3) := by decide +kernel
theorem dX11_init_60 : decode cX11_init 60 = .ok (.aload_n 0, 1) := by decide +kernel
theorem dX11_init_61 : decode cX11_init 61 = .ok (.bipush 32, 2) := by decide +kernel
theorem dX11_init_63 : decode cX11_init 63 = .ok (.newarray .int, 2) := by decide +kernel
theorem dX11_init_65 : decode cX11_init 65 = .ok (.putfield 31, 3) := by decide +kernel
theorem dX11_init_68 : decode cX11_init 68 = .ok (.aload_n 0, 1) := by decide +kernel
theorem dX11_init_69 : decode cX11_init 69 = .ok (.bipush 32, 2) := by decide +kernel
theorem dX11_init_71 : decode cX11_init 71 = .ok (.newarray .boolean, 2) := by decide +kernel
theorem dX11_init_73 : decode cX11_init 73 = .ok (.putfield 34, 3) := by decide +kernel
theorem dX11_init_76 : decode cX11_init 76 = .ok (.aload_n 0, 1) := by decide +kernel
theorem dX11_init_77 : decode cX11_init 77 = .ok (.bipush 60, 2) := by decide +kernel
theorem dX11_init_79 : decode cX11_init 79 = .ok (.newarray .int, 2) := by decide +kernel
theorem dX11_init_81 : decode cX11_init 81 = .ok (.putfield 38, 3) := by decide +kernel
theorem dX11_init_84 : decode cX11_init 84 = .ok (.aload_n 0, 1) := by decide +kernel
theorem dX11_init_85 : decode cX11_init 85 = .ok (.sipush 384, 3) := by decide +kernel
theorem dX11_init_88 : decode cX11_init 88 = .ok (.newarray .int, 2) := by decide +kernel
theorem dX11_init_90 : decode cX11_init 90 = .ok (.putfield 41, 3) := by decide +kernel
theorem dX11_init_93 : decode cX11_init 93 = .ok (.aload_n 0, 1) := by decide +kernel
theorem dX11_init_94 : decode cX11_init 94 = .ok (.sipush 1024, 3) := by decide +kernel
theorem dX11_init_97 : decode cX11_init 97 = .ok (.newarray .int, 2) := by decide +kernel
theorem dX11_init_99 : decode cX11_init 99 = .ok (.putfield 44, 3) := by decide +kernel
theorem dX11_init_102 : decode cX11_init 102 = .ok (.aload_n 0, 1) := by decide +kernel
theorem dX11_init_103 : decode cX11_init 103 = .ok (.sipush 1024, 3) := by decide +kernel
theorem dX11_init_106 : decode cX11_init 106 = .ok (.newarray .int, 2) := by decide +kernel
theorem dX11_init_108 : decode cX11_init 108 = .ok (.putfield 47, 3) := by decide +kernel
theorem dX11_init_111 : decode cX11_init 111 = .ok (.aload_n 0, 1) := by decide +kernel
theorem dX11_init_112 : decode cX11_init 112 = .ok (.sipush 200, 3) := by decide +kernel
theorem dX11_init_115 : decode cX11_init 115 = .ok (.newarray .int, 2) := by decide +kernel
theorem dX11_init_117 : decode cX11_init 117 = .ok (.putfield 50, 3) := by decide +kernel
theorem dX11_init_120 : decode cX11_init 120 = .ok (.aload_n 0, 1) := by decide +kernel
theorem dX11_init_121 : decode cX11_init 121 = .ok (.sipush 192, 3) := by decide +kernel
theorem dX11_init_124 : decode cX11_init 124 = .ok (.newarray .int, 2) := by decide +kernel
theorem dX11_init_126 : decode cX11_init 126 = .ok (.putfield 53, 3) := by decide +kernel
theorem dX11_init_129 : decode cX11_init 129 = .ok (.aload_n 0, 1) := by decide +kernel
theorem dX11_init_130 : decode cX11_init 130 = .ok (.bipush 96, 2) := by decide +kernel
theorem dX11_init_132 : decode cX11_init 132 = .ok (.newarray .int, 2) := by decide +kernel
theorem dX11_init_134 : decode cX11_init 134 = .ok (.putfield 56, 3) := by decide +kernel
theorem dX11_init_137 : decode cX11_init 137 = .ok (.aload_n 0, 1) := by decide +kernel
theorem dX11_init_138 : decode cX11_init 138 = .ok (.bipush 96, 2) := by decide +kernel
theorem dX11_init_140 : decode cX11_init 140 = .ok (.newarray .int, 2) := by decide +kernel
theorem dX11_init_142 : decode cX11_init 142 = .ok (.putfield 59, 3) := by decide +kernel
theorem dX11_init_145 : decode cX11_init 145 = .ok (.aload_n 0, 1) := by decide +kernel
theorem dX11_init_146 : decode cX11_init 146 = .ok (.sipush 1024, 3) := by decide +kernel
theorem dX11_init_149 : decode cX11_init 149 = .ok (.newarray .boolean, 2) := by decide +kernel
theorem dX11_init_151 : decode cX11_init 151 = .ok (.putfield 62, 3) := by decide +kernel
theorem dX11_init_154 : decode cX11_init 154 = .ok (.aload_n 0, 1) := by decide +kernel
theorem dX11_init_155 : decode cX11_init 155 = .ok (.sipush 1024, 3) := by decide +kernel
theorem dX11_init_158 : decode cX11_init 158 = .ok (.newarray .int, 2) := by decide +kernel
theorem dX11_init_160 : decode cX11_init 160 = .ok (.putfield 65, 3) := by decide +kernel
theorem dX11_init_163 : decode cX11_init 163 = .ok (.aload_n 0, 1) := by decide +kernel
theorem dX11_init_164 : decode cX11_init 164 = .ok (.sipush 1024, 3) := by decide +kernel
theorem dX11_init_167 : decode cX11_init 167 = .ok (.newarray .boolean, 2) := by decide +kernel
theorem dX11_init_169 : decode cX11_init 169 = .ok (.putfield 68, 3) := by decide +kernel
theorem dX11_init_172 : decode cX11_init 172 = .ok (.aload_n 0, 1) := by decide +kernel
theorem dX11_init_173 : decode cX11_init 173 = .ok (.sipush 1024, 3) := by decide +kernel
theorem dX11_init_176 : decode cX11_init 176 = .ok (.newarray .boolean, 2) := by decide +kernel
theorem dX11_init_178 : decode cX11_init 178 = .ok (.putfield 71, 3) := by decide +kernel
theorem dX11_init_181 : decode cX11_init 181 = .ok (.aload_n 0, 1) := by decide +kernel
theorem dX11_init_182 : decode cX11_init 182 = .ok (.sipush 1024, 3) := by decide +kernel
theorem dX11_init_185 : decode cX11_init 185 = .ok (.newarray .long, 2) := by decide +kernel
theorem dX11_init_187 : decode cX11_init 187 = .ok (.putfield 74, 3) := by decide +kernel
theorem dX11_init_190 : decode cX11_init 190 = .ok (.aload_n 0, 1) := by decide +kernel
theorem dX11_init_191 : decode cX11_init 191 = .ok (.sipush 1024, 3) := by decide +kernel
theorem dX11_init_194 : decode cX11_init 194 = .ok (.newarray .long, 2) := by decide +kernel
theorem dX11_init_196 : decode cX11_init 196 = .ok (.putfield 78, 3) := by decide +kernel
theorem dX11_init_199 : decode cX11_init 199 = .ok (.return_, 1) := by decide +kernel
theorem dX11_in_0 : decode cX11_in 0 = .ok (.lload_n 0, 1) := by decide +kernel
theorem dX11_in_1 : decode cX11_in 1 = .ok (.lload_n 2, 1) := by decide +kernel
theorem dX11_in_2 : decode cX11_in 2 = .ok (.lcmp, 1) := by decide +kernel
theorem dX11_in_3 : decode cX11_in 3 = .ok (.ifCond .lt 14, 3) := by decide +kernel
theorem dX11_in_6 : decode cX11_in 6 = .ok (.lload_n 0, 1) := by decide +kernel
theorem dX11_in_7 : decode cX11_in 7 = .ok (.lload 4, 2) := by decide +kernel
theorem dX11_in_9 : decode cX11_in 9 = .ok (.lcmp, 1) := by decide +kernel
theorem dX11_in_10 : decode cX11_in 10 = .ok (.ifCond .gt 7, 3) := by decide +kernel
theorem dX11_in_13 : decode cX11_in 13 = .ok (.iconst 1, 1) := by decide +kernel
theorem dX11_in_14 : decode cX11_in 14 = .ok (.goto 4, 3) := by decide +kernel
theorem dX11_in_17 : decode cX11_in 17 = .ok (.iconst 0, 1) := by decide +kernel
theorem dX11_in_18 : decode cX11_in 18 = .ok (.ireturn, 1) := by decide +kernel
theorem dX11_has_0 : decode cX11_has 0 = .ok (.iload_n 0, 1) := by decide +kernel
theorem dX11_has_1 : decode cX11_has 1 = .ok (.iload_n 1, 1) := by decide +kernel
theorem dX11_has_2 : decode cX11_has 2 = .ok (.ishr, 1) := by decide +kernel
theorem dX11_has_3 : decode cX11_has 3 = .ok (.iconst 1, 1) := by decide +kernel
theorem dX11_has_4 : decode cX11_has 4 = .ok (.iand, 1) := by decide +kernel
theorem dX11_has_5 : decode cX11_has 5 = .ok (.iconst 1, 1) := by decide +kernel
theorem dX11_has_6 : decode cX11_has 6 = .ok (.if_icmp .ne 7, 3) := by decide +kernel
theorem dX11_has_9 : decode cX11_has 9 = .ok (.iconst 1, 1) := by decide +kernel
theorem dX11_has_10 : decode cX11_has 10 = .ok (.goto 4, 3) := by decide +kernel
theorem dX11_has_13 : decode cX11_has 13 = .ok (.iconst 0, 1) := by decide +kernel
theorem dX11_has_14 : decode cX11_has 14 = .ok (.ireturn, 1) := by decide +kernel
theorem dX11_isTalk_0 : decode cX11_isTalk 0 = .ok (.aload_n 0, 1) := by decide +kernel
theorem dX11_isTalk_1 : decode cX11_isTalk 1 = .ok (.getfield 81, 3) := by decide +kernel
theorem dX11_isTalk_4 : decode cX11_isTalk 4 = .ok (.ifCond .eq 7, 3) := by decide +kernel
theorem dX11_isTalk_7 : decode cX11_isTalk 7 = .ok (.iconst 1, 1) := by decide +kernel
theorem dX11_isTalk_8 : decode cX11_isTalk 8 = .ok (.goto 4, 3) := by decide +kernel
theorem dX11_isTalk_11 : decode cX11_isTalk 11 = .ok (.iconst 0, 1) := by decide +kernel
theorem dX11_isTalk_12 : decode cX11_isTalk 12 = .ok (.ireturn, 1) := by decide +kernel
theorem dX11_isAnswer_0 : decode cX11_isAnswer 0 = .ok (.iload_n 1, 1) := by decide +kernel
theorem dX11_isAnswer_1 : decode cX11_isAnswer 1 = .ok (.i2l, 1) := by decide +kernel
theorem dX11_isAnswer_2 : decode cX11_isAnswer 2 = .ok (.lconst 0, 1) := by decide +kernel
theorem dX11_isAnswer_3 : decode cX11_isAnswer 3 = .ok (.aload_n 0, 1) := by decide +kernel
theorem dX11_isAnswer_4 : decode cX11_isAnswer 4 = .ok (.getfield 85, 3) := by decide +kernel
theorem dX11_isAnswer_7 : decode cX11_isAnswer 7 = .ok (.iconst 1, 1) := by decide +kernel
theorem dX11_isAnswer_8 : decode cX11_isAnswer 8 = .ok (.isub, 1) := by decide +kernel
theorem dX11_isAnswer_9 : decode cX11_isAnswer 9 = .ok (.i2l, 1) := by decide +kernel
theorem dX11_isAnswer_10 : decode cX11_isAnswer 10 = .ok (.invokestatic 88, 3) := by decide +kernel
theorem dX11_isAnswer_13 : decode cX11_isAnswer 13 = .ok (.ireturn, 1) := by decide +kernel
theorem dX11_isLine_0 : decode cX11_isLine 0 = .ok (.iload_n 1, 1) := by decide +kernel
theorem dX11_isLine_1 : decode cX11_isLine 1 = .ok (.i2l, 1) := by decide +kernel
theorem dX11_isLine_2 : decode cX11_isLine 2 = .ok (.lconst 0, 1) := by decide +kernel
theorem dX11_isLine_3 : decode cX11_isLine 3 = .ok (.ldc2_w 92, 3) := by decide +kernel
theorem dX11_isLine_6 : decode cX11_isLine 6 = .ok (.invokestatic 88, 3) := by decide +kernel
theorem dX11_isLine_9 : decode cX11_isLine 9 = .ok (.ifCond .eq 18, 3) := by decide +kernel
theorem dX11_isLine_12 : decode cX11_isLine 12 = .ok (.aload_n 0, 1) := by decide +kernel
theorem dX11_isLine_13 : decode cX11_isLine 13 = .ok (.getfield 81, 3) := by decide +kernel
theorem dX11_isLine_16 : decode cX11_isLine 16 = .ok (.iload_n 1, 1) := by decide +kernel
theorem dX11_isLine_17 : decode cX11_isLine 17 = .ok (.invokestatic 94, 3) := by decide +kernel
theorem dX11_isLine_20 : decode cX11_isLine 20 = .ok (.ifCond .eq 7, 3) := by decide +kernel
theorem dX11_isLine_23 : decode cX11_isLine 23 = .ok (.iconst 1, 1) := by decide +kernel
theorem dX11_isLine_24 : decode cX11_isLine 24 = .ok (.goto 4, 3) := by decide +kernel
theorem dX11_isLine_27 : decode cX11_isLine 27 = .ok (.iconst 0, 1) := by decide +kernel
theorem dX11_isLine_28 : decode cX11_isLine 28 = .ok (.ireturn, 1) := by decide +kernel
theorem dX11_holds_0 : decode cX11_holds 0 = .ok (.iload_n 3, 1) := by decide +kernel
theorem dX11_holds_1 : decode cX11_holds 1 = .ok (.ifCond .ge 7, 3) := by decide +kernel
theorem dX11_holds_4 : decode cX11_holds 4 = .ok (.iconst 0, 1) := by decide +kernel
theorem dX11_holds_5 : decode cX11_holds 5 = .ok (.goto 6, 3) := by decide +kernel
theorem dX11_holds_8 : decode cX11_holds 8 = .ok (.iconst 1, 1) := by decide +kernel
theorem dX11_holds_9 : decode cX11_holds 9 = .ok (.iload_n 3, 1) := by decide +kernel
theorem dX11_holds_10 : decode cX11_holds 10 = .ok (.ishl, 1) := by decide +kernel
theorem dX11_holds_11 : decode cX11_holds 11 = .ok (.istore 4, 2) := by decide +kernel
theorem dX11_holds_13 : decode cX11_holds 13 = .ok (.aload_n 0, 1) := by decide +kernel
theorem dX11_holds_14 : decode cX11_holds 14 = .ok (.getfield 19, 3) := by decide +kernel
theorem dX11_holds_17 : decode cX11_holds 17 = .ok (.iload_n 1, 1) := by decide +kernel
theorem dX11_holds_18 : decode cX11_holds 18 = .ok (.iaload, 1) := by decide +kernel
theorem dX11_holds_19 : decode cX11_holds 19 = .ok (.ifCond .ne 7, 3) := by decide +kernel
theorem dX11_holds_22 : decode cX11_holds 22 = .ok (.iconst 1, 1) := by decide +kernel
theorem dX11_holds_23 : decode cX11_holds 23 = .ok (.goto 4, 3) := by decide +kernel
theorem dX11_holds_26 : decode cX11_holds 26 = .ok (.iconst 0, 1) := by decide +kernel
theorem dX11_holds_27 : decode cX11_holds 27 = .ok (.istore 5, 2) := by decide +kernel
theorem dX11_holds_29 : decode cX11_holds 29 = .ok (.iconst 0, 1) := by decide +kernel
theorem dX11_holds_30 : decode cX11_holds 30 = .ok (.istore 6, 2) := by decide +kernel
theorem dX11_holds_32 : decode cX11_holds 32 = .ok (.iload 6, 2) := by decide +kernel
theorem dX11_holds_34 : decode cX11_holds 34 = .ok (.aload_n 0, 1) := by decide +kernel
theorem dX11_holds_35 : decode cX11_holds 35 = .ok (.getfield 19, 3) := by decide +kernel
theorem dX11_holds_38 : decode cX11_holds 38 = .ok (.iload_n 1, 1) := by decide +kernel
theorem dX11_holds_39 : decode cX11_holds 39 = .ok (.iaload, 1) := by decide +kernel
theorem dX11_holds_40 : decode cX11_holds 40 = .ok (.if_icmp .ge 73, 3) := by decide +kernel
theorem dX11_holds_43 : decode cX11_holds 43 = .ok (.aload_n 0, 1) := by decide +kernel
theorem dX11_holds_44 : decode cX11_holds 44 = .ok (.getfield 22, 3) := by decide +kernel
theorem dX11_holds_47 : decode cX11_holds 47 = .ok (.iconst 3, 1) := by decide +kernel
theorem dX11_holds_48 : decode cX11_holds 48 = .ok (.iload_n 1, 1) := by decide +kernel
theorem dX11_holds_49 : decode cX11_holds 49 = .ok (.imul, 1) := by decide +kernel
theorem dX11_holds_50 : decode cX11_holds 50 = .ok (.iload 6, 2) := by decide +kernel
theorem dX11_holds_52 : decode cX11_holds 52 = .ok (.iadd, 1) := by decide +kernel
theorem dX11_holds_53 : decode cX11_holds 53 = .ok (.iaload, 1) := by decide +kernel
theorem dX11_holds_54 : decode cX11_holds 54 = .ok (.iload 4, 2) := by decide +kernel
theorem dX11_holds_56 : decode cX11_holds 56 = .ok (.iconst (-1), 1) := by decide +kernel
theorem dX11_holds_57 : decode cX11_holds 57 = .ok (.ixor, 1) := by decide +kernel
theorem dX11_holds_58 : decode cX11_holds 58 = .ok (.iand, 1) := by decide +kernel
theorem dX11_holds_59 : decode cX11_holds 59 = .ok (.istore 7, 2) := by decide +kernel
theorem dX11_holds_61 : decode cX11_holds 61 = .ok (.aload_n 0, 1) := by decide +kernel
theorem dX11_holds_62 : decode cX11_holds 62 = .ok (.getfield 25, 3) := by decide +kernel
theorem dX11_holds_65 : decode cX11_holds 65 = .ok (.iconst 3, 1) := by decide +kernel
theorem dX11_holds_66 : decode cX11_holds 66 = .ok (.iload_n 1, 1) := by decide +kernel
theorem dX11_holds_67 : decode cX11_holds 67 = .ok (.imul, 1) := by decide +kernel
theorem dX11_holds_68 : decode cX11_holds 68 = .ok (.iload 6, 2) := by decide +kernel
theorem dX11_holds_70 : decode cX11_holds 70 = .ok (.iadd, 1) := by decide +kernel
theorem dX11_holds_71 : decode cX11_holds 71 = .ok (.iaload, 1) := by decide +kernel
theorem dX11_holds_72 : decode cX11_holds 72 = .ok (.iload 4, 2) := by decide +kernel
theorem dX11_holds_74 : decode cX11_holds 74 = .ok (.iconst (-1), 1) := by decide +kernel
theorem dX11_holds_75 : decode cX11_holds 75 = .ok (.ixor, 1) := by decide +kernel
theorem dX11_holds_76 : decode cX11_holds 76 = .ok (.iand, 1) := by decide +kernel
theorem dX11_holds_77 : decode cX11_holds 77 = .ok (.istore 8, 2) := by decide +kernel
theorem dX11_holds_79 : decode cX11_holds 79 = .ok (.iload 5, 2) := by decide +kernel
theorem dX11_holds_81 : decode cX11_holds 81 = .ok (.ifCond .ne 19, 3) := by decide +kernel
theorem dX11_holds_84 : decode cX11_holds 84 = .ok (.iload_n 2, 1) := by decide +kernel
theorem dX11_holds_85 : decode cX11_holds 85 = .ok (.iload 7, 2) := by decide +kernel
theorem dX11_holds_87 : decode cX11_holds 87 = .ok (.iand, 1) := by decide +kernel
theorem dX11_holds_88 : decode cX11_holds 88 = .ok (.iload 7, 2) := by decide +kernel
theorem dX11_holds_90 : decode cX11_holds 90 = .ok (.if_icmp .ne 14, 3) := by decide +kernel
theorem dX11_holds_93 : decode cX11_holds 93 = .ok (.iload_n 2, 1) := by decide +kernel
theorem dX11_holds_94 : decode cX11_holds 94 = .ok (.iload 8, 2) := by decide +kernel
theorem dX11_holds_96 : decode cX11_holds 96 = .ok (.iand, 1) := by decide +kernel
theorem dX11_holds_97 : decode cX11_holds 97 = .ok (.ifCond .ne 7, 3) := by decide +kernel
theorem dX11_holds_100 : decode cX11_holds 100 = .ok (.iconst 1, 1) := by decide +kernel
theorem dX11_holds_101 : decode cX11_holds 101 = .ok (.goto 4, 3) := by decide +kernel
theorem dX11_holds_104 : decode cX11_holds 104 = .ok (.iconst 0, 1) := by decide +kernel
theorem dX11_holds_105 : decode cX11_holds 105 = .ok (.istore 5, 2) := by decide +kernel
theorem dX11_holds_107 : decode cX11_holds 107 = .ok (.iinc 6 1, 3) := by decide +kernel
theorem dX11_holds_110 : decode cX11_holds 110 = .ok (.goto (-78), 3) := by decide +kernel
theorem dX11_holds_113 : decode cX11_holds 113 = .ok (.iload 5, 2) := by decide +kernel
theorem dX11_holds_115 : decode cX11_holds 115 = .ok (.ireturn, 1) := by decide +kernel
theorem dX11_isOpen_0 : decode cX11_isOpen 0 = .ok (.iload_n 2, 1) := by decide +kernel
theorem dX11_isOpen_1 : decode cX11_isOpen 1 = .ok (.bipush 64, 2) := by decide +kernel
theorem dX11_isOpen_3 : decode cX11_isOpen 3 = .ok (.idiv, 1) := by decide +kernel
theorem dX11_isOpen_4 : decode cX11_isOpen 4 = .ok (.istore 4, 2) := by decide +kernel
theorem dX11_isOpen_6 : decode cX11_isOpen 6 = .ok (.aload_n 0, 1) := by decide +kernel
theorem dX11_isOpen_7 : decode cX11_isOpen 7 = .ok (.getfield 34, 3) := by decide +kernel
theorem dX11_isOpen_10 : decode cX11_isOpen 10 = .ok (.iload_n 1, 1) := by decide +kernel
theorem dX11_isOpen_11 : decode cX11_isOpen 11 = .ok (.baload, 1) := by decide +kernel
theorem dX11_isOpen_12 : decode cX11_isOpen 12 = .ok (.ifCond .ne 43, 3) := by decide +kernel
theorem dX11_isOpen_15 : decode cX11_isOpen 15 = .ok (.aload_n 0, 1) := by decide +kernel
theorem dX11_isOpen_16 : decode cX11_isOpen 16 = .ok (.getfield 7, 3) := by decide +kernel
theorem dX11_isOpen_19 : decode cX11_isOpen 19 = .ok (.iload_n 1, 1) := by decide +kernel
theorem dX11_isOpen_20 : decode cX11_isOpen 20 = .ok (.iaload, 1) := by decide +kernel
theorem dX11_isOpen_21 : decode cX11_isOpen 21 = .ok (.iload 4, 2) := by decide +kernel
theorem dX11_isOpen_23 : decode cX11_isOpen 23 = .ok (.if_icmp .ne 32, 3) := by decide +kernel
theorem dX11_isOpen_26 : decode cX11_isOpen 26 = .ok (.aload_n 0, 1) := by decide +kernel
theorem dX11_isOpen_27 : decode cX11_isOpen 27 = .ok (.getfield 98, 3) := by decide +kernel
theorem dX11_isOpen_30 : decode cX11_isOpen 30 = .ok (.iload 4, 2) := by decide +kernel
theorem dX11_isOpen_32 : decode cX11_isOpen 32 = .ok (.invokestatic 94, 3) := by decide +kernel
theorem dX11_isOpen_35 : decode cX11_isOpen 35 = .ok (.ifCond .ne 20, 3) := by decide +kernel
theorem dX11_isOpen_38 : decode cX11_isOpen 38 = .ok (.aload_n 0, 1) := by decide +kernel
theorem dX11_isOpen_39 : decode cX11_isOpen 39 = .ok (.iload_n 1, 1) := by decide +kernel
theorem dX11_isOpen_40 : decode cX11_isOpen 40 = .ok (.iload_n 2, 1) := by decide +kernel
theorem dX11_isOpen_41 : decode cX11_isOpen 41 = .ok (.bipush 64, 2) := by decide +kernel
theorem dX11_isOpen_43 : decode cX11_isOpen 43 = .ok (.irem, 1) := by decide +kernel
theorem dX11_isOpen_44 : decode cX11_isOpen 44 = .ok (.iload_n 3, 1) := by decide +kernel
theorem dX11_isOpen_45 : decode cX11_isOpen 45 = .ok (.invokevirtual 101, 3) := by decide +kernel
theorem dX11_isOpen_48 : decode cX11_isOpen 48 = .ok (.ifCond .eq 7, 3) := by decide +kernel
theorem dX11_isOpen_51 : decode cX11_isOpen 51 = .ok (.iconst 1, 1) := by decide +kernel
theorem dX11_isOpen_52 : decode cX11_isOpen 52 = .ok (.goto 4, 3) := by decide +kernel
theorem dX11_isOpen_55 : decode cX11_isOpen 55 = .ok (.iconst 0, 1) := by decide +kernel
theorem dX11_isOpen_56 : decode cX11_isOpen 56 = .ok (.ireturn, 1) := by decide +kernel
theorem dX11_next_0 : decode cX11_next 0 = .ok (.bipush 64, 2) := by decide +kernel
theorem dX11_next_2 : decode cX11_next 2 = .ok (.aload_n 0, 1) := by decide +kernel
theorem dX11_next_3 : decode cX11_next 3 = .ok (.getfield 13, 3) := by decide +kernel
theorem dX11_next_6 : decode cX11_next 6 = .ok (.iload_n 1, 1) := by decide +kernel
theorem dX11_next_7 : decode cX11_next 7 = .ok (.iaload, 1) := by decide +kernel
theorem dX11_next_8 : decode cX11_next 8 = .ok (.imul, 1) := by decide +kernel
theorem dX11_next_9 : decode cX11_next 9 = .ok (.iload_n 2, 1) := by decide +kernel
theorem dX11_next_10 : decode cX11_next 10 = .ok (.bipush 64, 2) := by decide +kernel
theorem dX11_next_12 : decode cX11_next 12 = .ok (.irem, 1) := by decide +kernel
theorem dX11_next_13 : decode cX11_next 13 = .ok (.aload_n 0, 1) := by decide +kernel
theorem dX11_next_14 : decode cX11_next 14 = .ok (.getfield 31, 3) := by decide +kernel
theorem dX11_next_17 : decode cX11_next 17 = .ok (.iload_n 1, 1) := by decide +kernel
theorem dX11_next_18 : decode cX11_next 18 = .ok (.iaload, 1) := by decide +kernel
theorem dX11_next_19 : decode cX11_next 19 = .ok (.iconst (-1), 1) := by decide +kernel
theorem dX11_next_20 : decode cX11_next 20 = .ok (.ixor, 1) := by decide +kernel
theorem dX11_next_21 : decode cX11_next 21 = .ok (.iand, 1) := by decide +kernel
theorem dX11_next_22 : decode cX11_next 22 = .ok (.aload_n 0, 1) := by decide +kernel
theorem dX11_next_23 : decode cX11_next 23 = .ok (.getfield 28, 3) := by decide +kernel
theorem dX11_next_26 : decode cX11_next 26 = .ok (.iload_n 1, 1) := by decide +kernel
theorem dX11_next_27 : decode cX11_next 27 = .ok (.iaload, 1) := by decide +kernel
theorem dX11_next_28 : decode cX11_next 28 = .ok (.ior, 1) := by decide +kernel
theorem dX11_next_29 : decode cX11_next 29 = .ok (.iadd, 1) := by decide +kernel
theorem dX11_next_30 : decode cX11_next 30 = .ok (.ireturn, 1) := by decide +kernel
theorem dX11_reaches_0 : decode cX11_reaches 0 = .ok (.iconst 0, 1) := by decide +kernel
theorem dX11_reaches_1 : decode cX11_reaches 1 = .ok (.istore 5, 2) := by decide +kernel
theorem dX11_reaches_3 : decode cX11_reaches 3 = .ok (.iload 5, 2) := by decide +kernel
theorem dX11_reaches_5 : decode cX11_reaches 5 = .ok (.sipush 1024, 3) := by decide +kernel
theorem dX11_reaches_8 : decode cX11_reaches 8 = .ok (.if_icmp .ge 17, 3) := by decide +kernel
theorem dX11_reaches_11 : decode cX11_reaches 11 = .ok (.aload_n 0, 1) := by decide +kernel
theorem dX11_reaches_12 : decode cX11_reaches 12 = .ok (.getfield 44, 3) := by decide +kernel
theorem dX11_reaches_15 : decode cX11_reaches 15 = .ok (.iload 5, 2) := by decide +kernel
theorem dX11_reaches_17 : decode cX11_reaches 17 = .ok (.iconst (-1), 1) := by decide +kernel
theorem dX11_reaches_18 : decode cX11_reaches 18 = .ok (.iastore, 1) := by decide +kernel
theorem dX11_reaches_19 : decode cX11_reaches 19 = .ok (.iinc 5 1, 3) := by decide +kernel
theorem dX11_reaches_22 : decode cX11_reaches 22 = .ok (.goto (-19), 3) := by decide +kernel
theorem dX11_reaches_25 : decode cX11_reaches 25 = .ok (.aload_n 0, 1) := by decide +kernel
theorem dX11_reaches_26 : decode cX11_reaches 26 = .ok (.getfield 44, 3) := by decide +kernel
theorem dX11_reaches_29 : decode cX11_reaches 29 = .ok (.iload_n 1, 1) := by decide +kernel
theorem dX11_reaches_30 : decode cX11_reaches 30 = .ok (.iconst 0, 1) := by decide +kernel
theorem dX11_reaches_31 : decode cX11_reaches 31 = .ok (.iastore, 1) := by decide +kernel
theorem dX11_reaches_32 : decode cX11_reaches 32 = .ok (.aload_n 0, 1) := by decide +kernel
theorem dX11_reaches_33 : decode cX11_reaches 33 = .ok (.getfield 47, 3) := by decide +kernel
theorem dX11_reaches_36 : decode cX11_reaches 36 = .ok (.iconst 0, 1) := by decide +kernel
theorem dX11_reaches_37 : decode cX11_reaches 37 = .ok (.iload_n 1, 1) := by decide +kernel
theorem dX11_reaches_38 : decode cX11_reaches 38 = .ok (.iastore, 1) := by decide +kernel
theorem dX11_reaches_39 : decode cX11_reaches 39 = .ok (.iconst 1, 1) := by decide +kernel
theorem dX11_reaches_40 : decode cX11_reaches 40 = .ok (.istore 5, 2) := by decide +kernel
theorem dX11_reaches_42 : decode cX11_reaches 42 = .ok (.iconst 0, 1) := by decide +kernel
theorem dX11_reaches_43 : decode cX11_reaches 43 = .ok (.istore 6, 2) := by decide +kernel
theorem dX11_reaches_45 : decode cX11_reaches 45 = .ok (.iload 6, 2) := by decide +kernel
theorem dX11_reaches_47 : decode cX11_reaches 47 = .ok (.iload 5, 2) := by decide +kernel
theorem dX11_reaches_49 : decode cX11_reaches 49 = .ok (.if_icmp .ge 133, 3) := by decide +kernel
theorem dX11_reaches_52 : decode cX11_reaches 52 = .ok (.aload_n 0, 1) := by decide +kernel
theorem dX11_reaches_53 : decode cX11_reaches 53 = .ok (.getfield 47, 3) := by decide +kernel
theorem dX11_reaches_56 : decode cX11_reaches 56 = .ok (.iload 6, 2) := by decide +kernel
theorem dX11_reaches_58 : decode cX11_reaches 58 = .ok (.iaload, 1) := by decide +kernel
theorem dX11_reaches_59 : decode cX11_reaches 59 = .ok (.istore 7, 2) := by decide +kernel
theorem dX11_reaches_61 : decode cX11_reaches 61 = .ok (.iconst 0, 1) := by decide +kernel
theorem dX11_reaches_62 : decode cX11_reaches 62 = .ok (.istore 8, 2) := by decide +kernel
theorem dX11_reaches_64 : decode cX11_reaches 64 = .ok (.iload 8, 2) := by decide +kernel
theorem dX11_reaches_66 : decode cX11_reaches 66 = .ok (.aload_n 0, 1) := by decide +kernel
theorem dX11_reaches_67 : decode cX11_reaches 67 = .ok (.getfield 85, 3) := by decide +kernel
theorem dX11_reaches_70 : decode cX11_reaches 70 = .ok (.if_icmp .ge 106, 3) := by decide +kernel
theorem dX11_reaches_73 : decode cX11_reaches 73 = .ok (.iload 8, 2) := by decide +kernel
theorem dX11_reaches_75 : decode cX11_reaches 75 = .ok (.iload_n 2, 1) := by decide +kernel
theorem dX11_reaches_76 : decode cX11_reaches 76 = .ok (.if_icmp .eq 38, 3) := by decide +kernel
theorem dX11_reaches_79 : decode cX11_reaches 79 = .ok (.iload_n 3, 1) := by decide +kernel
theorem dX11_reaches_80 : decode cX11_reaches 80 = .ok (.ifCond .lt 17, 3) := by decide +kernel
theorem dX11_reaches_83 : decode cX11_reaches 83 = .ok (.aload_n 0, 1) := by decide +kernel
theorem dX11_reaches_84 : decode cX11_reaches 84 = .ok (.getfield 28, 3) := by decide +kernel
theorem dX11_reaches_87 : decode cX11_reaches 87 = .ok (.iload 8, 2) := by decide +kernel
theorem dX11_reaches_89 : decode cX11_reaches 89 = .ok (.iaload, 1) := by decide +kernel
theorem dX11_reaches_90 : decode cX11_reaches 90 = .ok (.iload_n 3, 1) := by decide +kernel
theorem dX11_reaches_91 : decode cX11_reaches 91 = .ok (.invokestatic 94, 3) := by decide +kernel
theorem dX11_reaches_94 : decode cX11_reaches 94 = .ok (.ifCond .ne 20, 3) := by decide +kernel
theorem dX11_reaches_97 : decode cX11_reaches 97 = .ok (.aload_n 0, 1) := by decide +kernel
theorem dX11_reaches_98 : decode cX11_reaches 98 = .ok (.iload 8, 2) := by decide +kernel
theorem dX11_reaches_100 : decode cX11_reaches 100 = .ok (.iload 7, 2) := by decide +kernel
theorem dX11_reaches_102 : decode cX11_reaches 102 = .ok (.iload 4, 2) := by decide +kernel
theorem dX11_reaches_104 : decode cX11_reaches 104 = .ok (.invokevirtual 105, 3) := by decide +kernel
theorem dX11_reaches_107 : decode cX11_reaches 107 = .ok (.ifCond .eq 7, 3) := by decide +kernel
theorem dX11_reaches_110 : decode cX11_reaches 110 = .ok (.iconst 1, 1) := by decide +kernel
theorem dX11_reaches_111 : decode cX11_reaches 111 = .ok (.goto 4, 3) := by decide +kernel
theorem dX11_reaches_114 : decode cX11_reaches 114 = .ok (.iconst 0, 1) := by decide +kernel
theorem dX11_reaches_115 : decode cX11_reaches 115 = .ok (.istore 9, 2) := by decide +kernel
theorem dX11_reaches_117 : decode cX11_reaches 117 = .ok (.aload_n 0, 1) := by decide +kernel
theorem dX11_reaches_118 : decode cX11_reaches 118 = .ok (.iload 8, 2) := by decide +kernel
theorem dX11_reaches_120 : decode cX11_reaches 120 = .ok (.iload 7, 2) := by decide +kernel
theorem dX11_reaches_122 : decode cX11_reaches 122 = .ok (.invokevirtual 108, 3) := by decide +kernel
theorem dX11_reaches_125 : decode cX11_reaches 125 = .ok (.istore 10, 2) := by decide +kernel
theorem dX11_reaches_127 : decode cX11_reaches 127 = .ok (.iload 9, 2) := by decide +kernel
theorem dX11_reaches_129 : decode cX11_reaches 129 = .ok (.ifCond .eq 41, 3) := by decide +kernel
theorem dX11_reaches_132 : decode cX11_reaches 132 = .ok (.aload_n 0, 1) := by decide +kernel
theorem dX11_reaches_133 : decode cX11_reaches 133 = .ok (.getfield 44, 3) := by decide +kernel
theorem dX11_reaches_136 : decode cX11_reaches 136 = .ok (.iload 10, 2) := by decide +kernel
theorem dX11_reaches_138 : decode cX11_reaches 138 = .ok (.iaload, 1) := by decide +kernel
theorem dX11_reaches_139 : decode cX11_reaches 139 = .ok (.ifCond .ge 31, 3) := by decide +kernel
theorem dX11_reaches_142 : decode cX11_reaches 142 = .ok (.aload_n 0, 1) := by decide +kernel
theorem dX11_reaches_143 : decode cX11_reaches 143 = .ok (.getfield 44, 3) := by decide +kernel
theorem dX11_reaches_146 : decode cX11_reaches 146 = .ok (.iload 10, 2) := by decide +kernel
theorem dX11_reaches_148 : decode cX11_reaches 148 = .ok (.aload_n 0, 1) := by decide +kernel
theorem dX11_reaches_149 : decode cX11_reaches 149 = .ok (.getfield 44, 3) := by decide +kernel
theorem dX11_reaches_152 : decode cX11_reaches 152 = .ok (.iload 7, 2) := by decide +kernel
theorem dX11_reaches_154 : decode cX11_reaches 154 = .ok (.iaload, 1) := by decide +kernel
theorem dX11_reaches_155 : decode cX11_reaches 155 = .ok (.iconst 1, 1) := by decide +kernel
theorem dX11_reaches_156 : decode cX11_reaches 156 = .ok (.iadd, 1) := by decide +kernel
theorem dX11_reaches_157 : decode cX11_reaches 157 = .ok (.iastore, 1) := by decide +kernel
theorem dX11_reaches_158 : decode cX11_reaches 158 = .ok (.aload_n 0, 1) := by decide +kernel
theorem dX11_reaches_159 : decode cX11_reaches 159 = .ok (.getfield 47, 3) := by decide +kernel
theorem dX11_reaches_162 : decode cX11_reaches 162 = .ok (.iload 5, 2) := by decide +kernel
theorem dX11_reaches_164 : decode cX11_reaches 164 = .ok (.iload 10, 2) := by decide +kernel
theorem dX11_reaches_166 : decode cX11_reaches 166 = .ok (.iastore, 1) := by decide +kernel
theorem dX11_reaches_167 : decode cX11_reaches 167 = .ok (.iinc 5 1, 3) := by decide +kernel
theorem dX11_reaches_170 : decode cX11_reaches 170 = .ok (.iinc 8 1, 3) := by decide +kernel
theorem dX11_reaches_173 : decode cX11_reaches 173 = .ok (.goto (-109), 3) := by decide +kernel
theorem dX11_reaches_176 : decode cX11_reaches 176 = .ok (.iinc 6 1, 3) := by decide +kernel
theorem dX11_reaches_179 : decode cX11_reaches 179 = .ok (.goto (-134), 3) := by decide +kernel
theorem dX11_reaches_182 : decode cX11_reaches 182 = .ok (.iload 5, 2) := by decide +kernel
theorem dX11_reaches_184 : decode cX11_reaches 184 = .ok (.ireturn, 1) := by decide +kernel
theorem dX11_first_0 : decode cX11_first 0 = .ok (.bipush 64, 2) := by decide +kernel
theorem dX11_first_2 : decode cX11_first 2 = .ok (.aload_n 0, 1) := by decide +kernel
theorem dX11_first_3 : decode cX11_first 3 = .ok (.getfield 112, 3) := by decide +kernel
theorem dX11_first_6 : decode cX11_first 6 = .ok (.imul, 1) := by decide +kernel
theorem dX11_first_7 : decode cX11_first 7 = .ok (.aload_n 0, 1) := by decide +kernel
theorem dX11_first_8 : decode cX11_first 8 = .ok (.getfield 115, 3) := by decide +kernel
theorem dX11_first_11 : decode cX11_first 11 = .ok (.iadd, 1) := by decide +kernel
theorem dX11_first_12 : decode cX11_first 12 = .ok (.ireturn, 1) := by decide +kernel
theorem dX11_reachesAll_0 : decode cX11_reachesAll 0 = .ok (.aload_n 0, 1) := by decide +kernel
theorem dX11_reachesAll_1 : decode cX11_reachesAll 1 = .ok (.aload_n 0, 1) := by decide +kernel
theorem dX11_reachesAll_2 : decode cX11_reachesAll 2 = .ok (.invokevirtual 118, 3) := by decide +kernel
theorem dX11_reachesAll_5 : decode cX11_reachesAll 5 = .ok (.iconst (-1), 1) := by decide +kernel
theorem dX11_reachesAll_6 : decode cX11_reachesAll 6 = .ok (.iconst (-1), 1) := by decide +kernel
theorem dX11_reachesAll_7 : decode cX11_reachesAll 7 = .ok (.iconst (-1), 1) := by decide +kernel
theorem dX11_reachesAll_8 : decode cX11_reachesAll 8 = .ok (.invokevirtual 122, 3) := by decide +kernel
theorem dX11_reachesAll_11 : decode cX11_reachesAll 11 = .ok (.ireturn, 1) := by decide +kernel
theorem dX11_fewest_0 : decode cX11_fewest 0 = .ok (.iconst (-1), 1) := by decide +kernel
theorem dX11_fewest_1 : decode cX11_fewest 1 = .ok (.istore_n 2, 1) := by decide +kernel
theorem dX11_fewest_2 : decode cX11_fewest 2 = .ok (.bipush 64, 2) := by decide +kernel
theorem dX11_fewest_4 : decode cX11_fewest 4 = .ok (.iload_n 1, 1) := by decide +kernel
theorem dX11_fewest_5 : decode cX11_fewest 5 = .ok (.imul, 1) := by decide +kernel
theorem dX11_fewest_6 : decode cX11_fewest 6 = .ok (.istore_n 3, 1) := by decide +kernel
theorem dX11_fewest_7 : decode cX11_fewest 7 = .ok (.iload_n 3, 1) := by decide +kernel
theorem dX11_fewest_8 : decode cX11_fewest 8 = .ok (.bipush 64, 2) := by decide +kernel
theorem dX11_fewest_10 : decode cX11_fewest 10 = .ok (.iload_n 1, 1) := by decide +kernel
theorem dX11_fewest_11 : decode cX11_fewest 11 = .ok (.imul, 1) := by decide +kernel
theorem dX11_fewest_12 : decode cX11_fewest 12 = .ok (.bipush 64, 2) := by decide +kernel
theorem dX11_fewest_14 : decode cX11_fewest 14 = .ok (.iadd, 1) := by decide +kernel
theorem dX11_fewest_15 : decode cX11_fewest 15 = .ok (.if_icmp .ge 43, 3) := by decide +kernel
theorem dX11_fewest_18 : decode cX11_fewest 18 = .ok (.aload_n 0, 1) := by decide +kernel
theorem dX11_fewest_19 : decode cX11_fewest 19 = .ok (.getfield 44, 3) := by decide +kernel
theorem dX11_fewest_22 : decode cX11_fewest 22 = .ok (.iload_n 3, 1) := by decide +kernel
theorem dX11_fewest_23 : decode cX11_fewest 23 = .ok (.iaload, 1) := by decide +kernel
theorem dX11_fewest_24 : decode cX11_fewest 24 = .ok (.ifCond .lt 26, 3) := by decide +kernel
theorem dX11_fewest_27 : decode cX11_fewest 27 = .ok (.iload_n 2, 1) := by decide +kernel
theorem dX11_fewest_28 : decode cX11_fewest 28 = .ok (.ifCond .lt 13, 3) := by decide +kernel
theorem dX11_fewest_31 : decode cX11_fewest 31 = .ok (.aload_n 0, 1) := by decide +kernel
theorem dX11_fewest_32 : decode cX11_fewest 32 = .ok (.getfield 44, 3) := by decide +kernel
theorem dX11_fewest_35 : decode cX11_fewest 35 = .ok (.iload_n 3, 1) := by decide +kernel
theorem dX11_fewest_36 : decode cX11_fewest 36 = .ok (.iaload, 1) := by decide +kernel
theorem dX11_fewest_37 : decode cX11_fewest 37 = .ok (.iload_n 2, 1) := by decide +kernel
theorem dX11_fewest_38 : decode cX11_fewest 38 = .ok (.if_icmp .ge 12, 3) := by decide +kernel
theorem dX11_fewest_41 : decode cX11_fewest 41 = .ok (.aload_n 0, 1) := by decide +kernel
theorem dX11_fewest_42 : decode cX11_fewest 42 = .ok (.getfield 44, 3) := by decide +kernel
theorem dX11_fewest_45 : decode cX11_fewest 45 = .ok (.iload_n 3, 1) := by decide +kernel
theorem dX11_fewest_46 : decode cX11_fewest 46 = .ok (.iaload, 1) := by decide +kernel
theorem dX11_fewest_47 : decode cX11_fewest 47 = .ok (.goto 4, 3) := by decide +kernel
theorem dX11_fewest_50 : decode cX11_fewest 50 = .ok (.iload_n 2, 1) := by decide +kernel
theorem dX11_fewest_51 : decode cX11_fewest 51 = .ok (.istore_n 2, 1) := by decide +kernel
theorem dX11_fewest_52 : decode cX11_fewest 52 = .ok (.iinc 3 1, 3) := by decide +kernel
theorem dX11_fewest_55 : decode cX11_fewest 55 = .ok (.goto (-48), 3) := by decide +kernel
theorem dX11_fewest_58 : decode cX11_fewest 58 = .ok (.iload_n 2, 1) := by decide +kernel
theorem dX11_fewest_59 : decode cX11_fewest 59 = .ok (.ireturn, 1) := by decide +kernel
theorem dX11_here_0 : decode cX11_here 0 = .ok (.aload_n 0, 1) := by decide +kernel
theorem dX11_here_1 : decode cX11_here 1 = .ok (.invokevirtual 118, 3) := by decide +kernel
theorem dX11_here_4 : decode cX11_here 4 = .ok (.istore_n 1, 1) := by decide +kernel
theorem dX11_here_5 : decode cX11_here 5 = .ok (.iconst 0, 1) := by decide +kernel
theorem dX11_here_6 : decode cX11_here 6 = .ok (.istore_n 2, 1) := by decide +kernel
theorem dX11_here_7 : decode cX11_here 7 = .ok (.iload_n 2, 1) := by decide +kernel
theorem dX11_here_8 : decode cX11_here 8 = .ok (.aload_n 0, 1) := by decide +kernel
theorem dX11_here_9 : decode cX11_here 9 = .ok (.getfield 126, 3) := by decide +kernel
theorem dX11_here_12 : decode cX11_here 12 = .ok (.if_icmp .ge 21, 3) := by decide +kernel
theorem dX11_here_15 : decode cX11_here 15 = .ok (.aload_n 0, 1) := by decide +kernel
theorem dX11_here_16 : decode cX11_here 16 = .ok (.aload_n 0, 1) := by decide +kernel
theorem dX11_here_17 : decode cX11_here 17 = .ok (.getfield 38, 3) := by decide +kernel
theorem dX11_here_20 : decode cX11_here 20 = .ok (.iload_n 2, 1) := by decide +kernel
theorem dX11_here_21 : decode cX11_here 21 = .ok (.iaload, 1) := by decide +kernel
theorem dX11_here_22 : decode cX11_here 22 = .ok (.iload_n 1, 1) := by decide +kernel
theorem dX11_here_23 : decode cX11_here 23 = .ok (.invokevirtual 108, 3) := by decide +kernel
theorem dX11_here_26 : decode cX11_here 26 = .ok (.istore_n 1, 1) := by decide +kernel
theorem dX11_here_27 : decode cX11_here 27 = .ok (.iinc 2 1, 3) := by decide +kernel
theorem dX11_here_30 : decode cX11_here 30 = .ok (.goto (-23), 3) := by decide +kernel
theorem dX11_here_33 : decode cX11_here 33 = .ok (.iload_n 1, 1) := by decide +kernel
theorem dX11_here_34 : decode cX11_here 34 = .ok (.ireturn, 1) := by decide +kernel
theorem dX11_write_0 : decode cX11_write 0 = .ok (.iload_n 1, 1) := by decide +kernel
theorem dX11_write_1 : decode cX11_write 1 = .ok (.i2l, 1) := by decide +kernel
theorem dX11_write_2 : decode cX11_write 2 = .ok (.lconst 0, 1) := by decide +kernel
theorem dX11_write_3 : decode cX11_write 3 = .ok (.ldc2_w 129, 3) := by decide +kernel
theorem dX11_write_6 : decode cX11_write 6 = .ok (.invokestatic 88, 3) := by decide +kernel
theorem dX11_write_9 : decode cX11_write 9 = .ok (.ifCond .ne 6, 3) := by decide +kernel
theorem dX11_write_12 : decode cX11_write 12 = .ok (.ldc 131, 2) := by decide +kernel
theorem dX11_write_14 : decode cX11_write 14 = .ok (.ireturn, 1) := by decide +kernel
theorem dX11_write_15 : decode cX11_write 15 = .ok (.aload_n 0, 1) := by decide +kernel
theorem dX11_write_16 : decode cX11_write 16 = .ok (.getfield 132, 3) := by decide +kernel
theorem dX11_write_19 : decode cX11_write 19 = .ok (.sipush 200, 3) := by decide +kernel
theorem dX11_write_22 : decode cX11_write 22 = .ok (.if_icmp .ne 6, 3) := by decide +kernel
theorem dX11_write_25 : decode cX11_write 25 = .ok (.ldc 135, 2) := by decide +kernel
theorem dX11_write_27 : decode cX11_write 27 = .ok (.ireturn, 1) := by decide +kernel
theorem dX11_write_28 : decode cX11_write 28 = .ok (.aload_n 0, 1) := by decide +kernel
theorem dX11_write_29 : decode cX11_write 29 = .ok (.getfield 50, 3) := by decide +kernel
theorem dX11_write_32 : decode cX11_write 32 = .ok (.aload_n 0, 1) := by decide +kernel
theorem dX11_write_33 : decode cX11_write 33 = .ok (.getfield 132, 3) := by decide +kernel
theorem dX11_write_36 : decode cX11_write 36 = .ok (.iload_n 1, 1) := by decide +kernel
theorem dX11_write_37 : decode cX11_write 37 = .ok (.iastore, 1) := by decide +kernel
theorem dX11_write_38 : decode cX11_write 38 = .ok (.aload_n 0, 1) := by decide +kernel
theorem dX11_write_39 : decode cX11_write 39 = .ok (.dup, 1) := by decide +kernel
theorem dX11_write_40 : decode cX11_write 40 = .ok (.getfield 132, 3) := by decide +kernel
theorem dX11_write_43 : decode cX11_write 43 = .ok (.iconst 1, 1) := by decide +kernel
theorem dX11_write_44 : decode cX11_write 44 = .ok (.iadd, 1) := by decide +kernel
theorem dX11_write_45 : decode cX11_write 45 = .ok (.putfield 132, 3) := by decide +kernel
theorem dX11_write_48 : decode cX11_write 48 = .ok (.aload_n 0, 1) := by decide +kernel
theorem dX11_write_49 : decode cX11_write 49 = .ok (.getfield 132, 3) := by decide +kernel
theorem dX11_write_52 : decode cX11_write 52 = .ok (.ireturn, 1) := by decide +kernel
theorem dX11_look_0 : decode cX11_look 0 = .ok (.aload_n 0, 1) := by decide +kernel
theorem dX11_look_1 : decode cX11_look 1 = .ok (.getfield 136, 3) := by decide +kernel
theorem dX11_look_4 : decode cX11_look 4 = .ok (.aload_n 0, 1) := by decide +kernel
theorem dX11_look_5 : decode cX11_look 5 = .ok (.getfield 132, 3) := by decide +kernel
theorem dX11_look_8 : decode cX11_look 8 = .ok (.if_icmp .ge 30, 3) := by decide +kernel
theorem dX11_look_11 : decode cX11_look 11 = .ok (.aload_n 0, 1) := by decide +kernel
theorem dX11_look_12 : decode cX11_look 12 = .ok (.getfield 50, 3) := by decide +kernel
theorem dX11_look_15 : decode cX11_look 15 = .ok (.aload_n 0, 1) := by decide +kernel
theorem dX11_look_16 : decode cX11_look 16 = .ok (.getfield 136, 3) := by decide +kernel
theorem dX11_look_19 : decode cX11_look 19 = .ok (.iaload, 1) := by decide +kernel
theorem dX11_look_20 : decode cX11_look 20 = .ok (.bipush 32, 2) := by decide +kernel
theorem dX11_look_22 : decode cX11_look 22 = .ok (.if_icmp .ne 16, 3) := by decide +kernel
theorem dX11_look_25 : decode cX11_look 25 = .ok (.aload_n 0, 1) := by decide +kernel
theorem dX11_look_26 : decode cX11_look 26 = .ok (.dup, 1) := by decide +kernel
theorem dX11_look_27 : decode cX11_look 27 = .ok (.getfield 136, 3) := by decide +kernel
theorem dX11_look_30 : decode cX11_look 30 = .ok (.iconst 1, 1) := by decide +kernel
theorem dX11_look_31 : decode cX11_look 31 = .ok (.iadd, 1) := by decide +kernel
theorem dX11_look_32 : decode cX11_look 32 = .ok (.putfield 136, 3) := by decide +kernel
theorem dX11_look_35 : decode cX11_look 35 = .ok (.goto (-35), 3) := by decide +kernel
theorem dX11_look_38 : decode cX11_look 38 = .ok (.aload_n 0, 1) := by decide +kernel
theorem dX11_look_39 : decode cX11_look 39 = .ok (.getfield 136, 3) := by decide +kernel
theorem dX11_look_42 : decode cX11_look 42 = .ok (.aload_n 0, 1) := by decide +kernel
theorem dX11_look_43 : decode cX11_look 43 = .ok (.getfield 132, 3) := by decide +kernel
theorem dX11_look_46 : decode cX11_look 46 = .ok (.if_icmp .ge 15, 3) := by decide +kernel
theorem dX11_look_49 : decode cX11_look 49 = .ok (.aload_n 0, 1) := by decide +kernel
theorem dX11_look_50 : decode cX11_look 50 = .ok (.getfield 50, 3) := by decide +kernel
theorem dX11_look_53 : decode cX11_look 53 = .ok (.aload_n 0, 1) := by decide +kernel
theorem dX11_look_54 : decode cX11_look 54 = .ok (.getfield 136, 3) := by decide +kernel
theorem dX11_look_57 : decode cX11_look 57 = .ok (.iaload, 1) := by decide +kernel
theorem dX11_look_58 : decode cX11_look 58 = .ok (.goto 4, 3) := by decide +kernel
theorem dX11_look_61 : decode cX11_look 61 = .ok (.iconst (-1), 1) := by decide +kernel
theorem dX11_look_62 : decode cX11_look 62 = .ok (.ireturn, 1) := by decide +kernel
theorem dX11_wrong_0 : decode cX11_wrong 0 = .ok (.aload_n 0, 1) := by decide +kernel
theorem dX11_wrong_1 : decode cX11_wrong 1 = .ok (.aload_n 0, 1) := by decide +kernel
theorem dX11_wrong_2 : decode cX11_wrong 2 = .ok (.getfield 139, 3) := by decide +kernel
theorem dX11_wrong_5 : decode cX11_wrong 5 = .ok (.ifCond .ne 7, 3) := by decide +kernel
theorem dX11_wrong_8 : decode cX11_wrong 8 = .ok (.iload_n 1, 1) := by decide +kernel
theorem dX11_wrong_9 : decode cX11_wrong 9 = .ok (.goto 7, 3) := by decide +kernel
theorem dX11_wrong_12 : decode cX11_wrong 12 = .ok (.aload_n 0, 1) := by decide +kernel
theorem dX11_wrong_13 : decode cX11_wrong 13 = .ok (.getfield 139, 3) := by decide +kernel
theorem dX11_wrong_16 : decode cX11_wrong 16 = .ok (.putfield 139, 3) := by decide +kernel
theorem dX11_wrong_19 : decode cX11_wrong 19 = .ok (.return_, 1) := by decide +kernel
theorem dX11_passes_0 : decode cX11_passes 0 = .ok (.aload_n 0, 1) := by decide +kernel
theorem dX11_passes_1 : decode cX11_passes 1 = .ok (.invokevirtual 142, 3) := by decide +kernel
theorem dX11_passes_4 : decode cX11_passes 4 = .ok (.iload_n 1, 1) := by decide +kernel
theorem dX11_passes_5 : decode cX11_passes 5 = .ok (.if_icmp .eq 8, 3) := by decide +kernel
theorem dX11_passes_8 : decode cX11_passes 8 = .ok (.aload_n 0, 1) := by decide +kernel
theorem dX11_passes_9 : decode cX11_passes 9 = .ok (.iconst 1, 1) := by decide +kernel
theorem dX11_passes_10 : decode cX11_passes 10 = .ok (.invokevirtual 145, 3) := by decide +kernel
theorem dX11_passes_13 : decode cX11_passes 13 = .ok (.aload_n 0, 1) := by decide +kernel
theorem dX11_passes_14 : decode cX11_passes 14 = .ok (.dup, 1) := by decide +kernel
theorem dX11_passes_15 : decode cX11_passes 15 = .ok (.getfield 136, 3) := by decide +kernel
theorem dX11_passes_18 : decode cX11_passes 18 = .ok (.aload_n 0, 1) := by decide +kernel
theorem dX11_passes_19 : decode cX11_passes 19 = .ok (.getfield 139, 3) := by decide +kernel
theorem dX11_passes_22 : decode cX11_passes 22 = .ok (.ifCond .ne 7, 3) := by decide +kernel
theorem dX11_passes_25 : decode cX11_passes 25 = .ok (.iconst 1, 1) := by decide +kernel
theorem dX11_passes_26 : decode cX11_passes 26 = .ok (.goto 4, 3) := by decide +kernel
theorem dX11_passes_29 : decode cX11_passes 29 = .ok (.iconst 0, 1) := by decide +kernel
theorem dX11_passes_30 : decode cX11_passes 30 = .ok (.iadd, 1) := by decide +kernel
theorem dX11_passes_31 : decode cX11_passes 31 = .ok (.putfield 136, 3) := by decide +kernel
theorem dX11_passes_34 : decode cX11_passes 34 = .ok (.return_, 1) := by decide +kernel
theorem dX11_line_0 : decode cX11_line 0 = .ok (.aload_n 0, 1) := by decide +kernel
theorem dX11_line_1 : decode cX11_line 1 = .ok (.invokevirtual 142, 3) := by decide +kernel
theorem dX11_line_4 : decode cX11_line 4 = .ok (.istore_n 1, 1) := by decide +kernel
theorem dX11_line_5 : decode cX11_line 5 = .ok (.iload_n 1, 1) := by decide +kernel
theorem dX11_line_6 : decode cX11_line 6 = .ok (.i2l, 1) := by decide +kernel
theorem dX11_line_7 : decode cX11_line 7 = .ok (.ldc2_w 149, 3) := by decide +kernel
theorem dX11_line_10 : decode cX11_line 10 = .ok (.ldc2_w 151, 3) := by decide +kernel
theorem dX11_line_13 : decode cX11_line 13 = .ok (.invokestatic 88, 3) := by decide +kernel
theorem dX11_line_16 : decode cX11_line 16 = .ok (.ifCond .ne 8, 3) := by decide +kernel
theorem dX11_line_19 : decode cX11_line 19 = .ok (.aload_n 0, 1) := by decide +kernel
theorem dX11_line_20 : decode cX11_line 20 = .ok (.iconst 1, 1) := by decide +kernel
theorem dX11_line_21 : decode cX11_line 21 = .ok (.invokevirtual 145, 3) := by decide +kernel
theorem dX11_line_24 : decode cX11_line 24 = .ok (.aload_n 0, 1) := by decide +kernel
theorem dX11_line_25 : decode cX11_line 25 = .ok (.getfield 139, 3) := by decide +kernel
theorem dX11_line_28 : decode cX11_line 28 = .ok (.ifCond .le 5, 3) := by decide +kernel
theorem dX11_line_31 : decode cX11_line 31 = .ok (.iconst 0, 1) := by decide +kernel
theorem dX11_line_32 : decode cX11_line 32 = .ok (.ireturn, 1) := by decide +kernel
theorem dX11_line_33 : decode cX11_line 33 = .ok (.aload_n 0, 1) := by decide +kernel
theorem dX11_line_34 : decode cX11_line 34 = .ok (.dup, 1) := by decide +kernel
theorem dX11_line_35 : decode cX11_line 35 = .ok (.getfield 136, 3) := by decide +kernel
theorem dX11_line_38 : decode cX11_line 38 = .ok (.iconst 1, 1) := by decide +kernel
theorem dX11_line_39 : decode cX11_line 39 = .ok (.iadd, 1) := by decide +kernel
theorem dX11_line_40 : decode cX11_line 40 = .ok (.putfield 136, 3) := by decide +kernel
theorem dX11_line_43 : decode cX11_line 43 = .ok (.aload_n 0, 1) := by decide +kernel
theorem dX11_line_44 : decode cX11_line 44 = .ok (.aload_n 0, 1) := by decide +kernel
theorem dX11_line_45 : decode cX11_line 45 = .ok (.getfield 153, 3) := by decide +kernel
theorem dX11_line_48 : decode cX11_line 48 = .ok (.ifCond .ne 10, 3) := by decide +kernel
theorem dX11_line_51 : decode cX11_line 51 = .ok (.iload_n 1, 1) := by decide +kernel
theorem dX11_line_52 : decode cX11_line 52 = .ok (.bipush 97, 2) := by decide +kernel
theorem dX11_line_54 : decode cX11_line 54 = .ok (.isub, 1) := by decide +kernel
theorem dX11_line_55 : decode cX11_line 55 = .ok (.goto 7, 3) := by decide +kernel
theorem dX11_line_58 : decode cX11_line 58 = .ok (.aload_n 0, 1) := by decide +kernel
theorem dX11_line_59 : decode cX11_line 59 = .ok (.getfield 156, 3) := by decide +kernel
theorem dX11_line_62 : decode cX11_line 62 = .ok (.putfield 156, 3) := by decide +kernel
theorem dX11_line_65 : decode cX11_line 65 = .ok (.aload_n 0, 1) := by decide +kernel
theorem dX11_line_66 : decode cX11_line 66 = .ok (.dup, 1) := by decide +kernel
theorem dX11_line_67 : decode cX11_line 67 = .ok (.getfield 153, 3) := by decide +kernel
theorem dX11_line_70 : decode cX11_line 70 = .ok (.iconst 1, 1) := by decide +kernel
theorem dX11_line_71 : decode cX11_line 71 = .ok (.iload_n 1, 1) := by decide +kernel
theorem dX11_line_72 : decode cX11_line 72 = .ok (.bipush 97, 2) := by decide +kernel
theorem dX11_line_74 : decode cX11_line 74 = .ok (.isub, 1) := by decide +kernel
theorem dX11_line_75 : decode cX11_line 75 = .ok (.ishl, 1) := by decide +kernel
theorem dX11_line_76 : decode cX11_line 76 = .ok (.ior, 1) := by decide +kernel
theorem dX11_line_77 : decode cX11_line 77 = .ok (.putfield 153, 3) := by decide +kernel
theorem dX11_line_80 : decode cX11_line 80 = .ok (.iload_n 1, 1) := by decide +kernel
theorem dX11_line_81 : decode cX11_line 81 = .ok (.bipush 97, 2) := by decide +kernel
theorem dX11_line_83 : decode cX11_line 83 = .ok (.isub, 1) := by decide +kernel
theorem dX11_line_84 : decode cX11_line 84 = .ok (.ireturn, 1) := by decide +kernel
theorem dX11_isMark_0 : decode cX11_isMark 0 = .ok (.aload_n 0, 1) := by decide +kernel
theorem dX11_isMark_1 : decode cX11_isMark 1 = .ok (.invokevirtual 142, 3) := by decide +kernel
theorem dX11_isMark_4 : decode cX11_isMark 4 = .ok (.i2l, 1) := by decide +kernel
theorem dX11_isMark_5 : decode cX11_isMark 5 = .ok (.ldc2_w 159, 3) := by decide +kernel
theorem dX11_isMark_8 : decode cX11_isMark 8 = .ok (.ldc2_w 161, 3) := by decide +kernel
theorem dX11_isMark_11 : decode cX11_isMark 11 = .ok (.invokestatic 88, 3) := by decide +kernel
theorem dX11_isMark_14 : decode cX11_isMark 14 = .ok (.ifCond .ne 20, 3) := by decide +kernel
theorem dX11_isMark_17 : decode cX11_isMark 17 = .ok (.aload_n 0, 1) := by decide +kernel
theorem dX11_isMark_18 : decode cX11_isMark 18 = .ok (.invokevirtual 142, 3) := by decide +kernel
theorem dX11_isMark_21 : decode cX11_isMark 21 = .ok (.i2l, 1) := by decide +kernel
theorem dX11_isMark_22 : decode cX11_isMark 22 = .ok (.ldc2_w 163, 3) := by decide +kernel
theorem dX11_isMark_25 : decode cX11_isMark 25 = .ok (.ldc2_w 165, 3) := by decide +kernel
theorem dX11_isMark_28 : decode cX11_isMark 28 = .ok (.invokestatic 88, 3) := by decide +kernel
theorem dX11_isMark_31 : decode cX11_isMark 31 = .ok (.ifCond .eq 7, 3) := by decide +kernel
theorem dX11_isMark_34 : decode cX11_isMark 34 = .ok (.iconst 1, 1) := by decide +kernel
theorem dX11_isMark_35 : decode cX11_isMark 35 = .ok (.goto 4, 3) := by decide +kernel
theorem dX11_isMark_38 : decode cX11_isMark 38 = .ok (.iconst 0, 1) := by decide +kernel
theorem dX11_isMark_39 : decode cX11_isMark 39 = .ok (.ireturn, 1) := by decide +kernel
theorem dX11_readsAlternative_0 : decode cX11_readsAlternative 0 = .ok (.iconst 3, 1) := by decide +kernel
theorem dX11_readsAlternative_1 : decode cX11_readsAlternative 1 = .ok (.iload_n 1, 1) := by decide +kernel
theorem dX11_readsAlternative_2 : decode cX11_readsAlternative 2 = .ok (.imul, 1) := by decide +kernel
theorem dX11_readsAlternative_3 : decode cX11_readsAlternative 3 = .ok (.aload_n 0, 1) := by decide +kernel
theorem dX11_readsAlternative_4 : decode cX11_readsAlternative 4 = .ok (.getfield 53, 3) := by decide +kernel
theorem dX11_readsAlternative_7 : decode cX11_readsAlternative 7 = .ok (.bipush 6, 2) := by decide +kernel
theorem dX11_readsAlternative_9 : decode cX11_readsAlternative 9 = .ok (.iload_n 1, 1) := by decide +kernel
theorem dX11_readsAlternative_10 : decode cX11_readsAlternative 10 = .ok (.imul, 1) := by decide +kernel
theorem dX11_readsAlternative_11 : decode cX11_readsAlternative 11 = .ok (.iconst 3, 1) := by decide +kernel
theorem dX11_readsAlternative_12 : decode cX11_readsAlternative 12 = .ok (.iadd, 1) := by decide +kernel
theorem dX11_readsAlternative_13 : decode cX11_readsAlternative 13 = .ok (.iaload, 1) := by decide +kernel
theorem dX11_readsAlternative_14 : decode cX11_readsAlternative 14 = .ok (.iadd, 1) := by decide +kernel
theorem dX11_readsAlternative_15 : decode cX11_readsAlternative 15 = .ok (.istore_n 2, 1) := by decide +kernel
theorem dX11_readsAlternative_16 : decode cX11_readsAlternative 16 = .ok (.aload_n 0, 1) := by decide +kernel
theorem dX11_readsAlternative_17 : decode cX11_readsAlternative 17 = .ok (.invokevirtual 167, 3) := by decide +kernel
theorem dX11_readsAlternative_20 : decode cX11_readsAlternative 20 = .ok (.ifCond .ne 8, 3) := by decide +kernel
theorem dX11_readsAlternative_23 : decode cX11_readsAlternative 23 = .ok (.aload_n 0, 1) := by decide +kernel
theorem dX11_readsAlternative_24 : decode cX11_readsAlternative 24 = .ok (.iconst 1, 1) := by decide +kernel
theorem dX11_readsAlternative_25 : decode cX11_readsAlternative 25 = .ok (.invokevirtual 145, 3) := by decide +kernel
theorem dX11_readsAlternative_28 : decode cX11_readsAlternative 28 = .ok (.aload_n 0, 1) := by decide +kernel
theorem dX11_readsAlternative_29 : decode cX11_readsAlternative 29 = .ok (.getfield 56, 3) := by decide +kernel
theorem dX11_readsAlternative_32 : decode cX11_readsAlternative 32 = .ok (.iload_n 2, 1) := by decide +kernel
theorem dX11_readsAlternative_33 : decode cX11_readsAlternative 33 = .ok (.iconst 0, 1) := by decide +kernel
theorem dX11_readsAlternative_34 : decode cX11_readsAlternative 34 = .ok (.iastore, 1) := by decide +kernel
theorem dX11_readsAlternative_35 : decode cX11_readsAlternative 35 = .ok (.aload_n 0, 1) := by decide +kernel
theorem dX11_readsAlternative_36 : decode cX11_readsAlternative 36 = .ok (.getfield 59, 3) := by decide +kernel
theorem dX11_readsAlternative_39 : decode cX11_readsAlternative 39 = .ok (.iload_n 2, 1) := by decide +kernel
theorem dX11_readsAlternative_40 : decode cX11_readsAlternative 40 = .ok (.iconst 0, 1) := by decide +kernel
theorem dX11_readsAlternative_41 : decode cX11_readsAlternative 41 = .ok (.iastore, 1) := by decide +kernel
theorem dX11_readsAlternative_42 : decode cX11_readsAlternative 42 = .ok (.aload_n 0, 1) := by decide +kernel
theorem dX11_readsAlternative_43 : decode cX11_readsAlternative 43 = .ok (.getfield 139, 3) := by decide +kernel
theorem dX11_readsAlternative_46 : decode cX11_readsAlternative 46 = .ok (.ifCond .ne 78, 3) := by decide +kernel
theorem dX11_readsAlternative_49 : decode cX11_readsAlternative 49 = .ok (.aload_n 0, 1) := by decide +kernel
theorem dX11_readsAlternative_50 : decode cX11_readsAlternative 50 = .ok (.invokevirtual 167, 3) := by decide +kernel
theorem dX11_readsAlternative_53 : decode cX11_readsAlternative 53 = .ok (.ifCond .eq 71, 3) := by decide +kernel
theorem dX11_readsAlternative_56 : decode cX11_readsAlternative 56 = .ok (.aload_n 0, 1) := by decide +kernel
theorem dX11_readsAlternative_57 : decode cX11_readsAlternative 57 = .ok (.invokevirtual 142, 3) := by decide +kernel
theorem dX11_readsAlternative_60 : decode cX11_readsAlternative 60 = .ok (.istore_n 3, 1) := by decide +kernel
theorem dX11_readsAlternative_61 : decode cX11_readsAlternative 61 = .ok (.aload_n 0, 1) := by decide +kernel
theorem dX11_readsAlternative_62 : decode cX11_readsAlternative 62 = .ok (.getfield 56, 3) := by decide +kernel
theorem dX11_readsAlternative_65 : decode cX11_readsAlternative 65 = .ok (.iload_n 2, 1) := by decide +kernel
theorem dX11_readsAlternative_66 : decode cX11_readsAlternative 66 = .ok (.dup2, 1) := by decide +kernel
theorem dX11_readsAlternative_67 : decode cX11_readsAlternative 67 = .ok (.iaload, 1) := by decide +kernel
theorem dX11_readsAlternative_68 : decode cX11_readsAlternative 68 = .ok (.iload_n 3, 1) := by decide +kernel
theorem dX11_readsAlternative_69 : decode cX11_readsAlternative 69 = .ok (.bipush 113, 2) := by decide +kernel
theorem dX11_readsAlternative_71 : decode cX11_readsAlternative 71 = .ok (.if_icmp .lt 12, 3) := by decide +kernel
theorem dX11_readsAlternative_74 : decode cX11_readsAlternative 74 = .ok (.iconst 1, 1) := by decide +kernel
theorem dX11_readsAlternative_75 : decode cX11_readsAlternative 75 = .ok (.iload_n 3, 1) := by decide +kernel
theorem dX11_readsAlternative_76 : decode cX11_readsAlternative 76 = .ok (.bipush 113, 2) := by decide +kernel
theorem dX11_readsAlternative_78 : decode cX11_readsAlternative 78 = .ok (.isub, 1) := by decide +kernel
theorem dX11_readsAlternative_79 : decode cX11_readsAlternative 79 = .ok (.ishl, 1) := by decide +kernel
theorem dX11_readsAlternative_80 : decode cX11_readsAlternative 80 = .ok (.goto 4, 3) := by decide +kernel
theorem dX11_readsAlternative_83 : decode cX11_readsAlternative 83 = .ok (.iconst 0, 1) := by decide +kernel
theorem dX11_readsAlternative_84 : decode cX11_readsAlternative 84 = .ok (.ior, 1) := by decide +kernel
theorem dX11_readsAlternative_85 : decode cX11_readsAlternative 85 = .ok (.iastore, 1) := by decide +kernel
theorem dX11_readsAlternative_86 : decode cX11_readsAlternative 86 = .ok (.aload_n 0, 1) := by decide +kernel
theorem dX11_readsAlternative_87 : decode cX11_readsAlternative 87 = .ok (.getfield 59, 3) := by decide +kernel
theorem dX11_readsAlternative_90 : decode cX11_readsAlternative 90 = .ok (.iload_n 2, 1) := by decide +kernel
theorem dX11_readsAlternative_91 : decode cX11_readsAlternative 91 = .ok (.dup2, 1) := by decide +kernel
theorem dX11_readsAlternative_92 : decode cX11_readsAlternative 92 = .ok (.iaload, 1) := by decide +kernel
theorem dX11_readsAlternative_93 : decode cX11_readsAlternative 93 = .ok (.iload_n 3, 1) := by decide +kernel
theorem dX11_readsAlternative_94 : decode cX11_readsAlternative 94 = .ok (.bipush 113, 2) := by decide +kernel
theorem dX11_readsAlternative_96 : decode cX11_readsAlternative 96 = .ok (.if_icmp .lt 7, 3) := by decide +kernel
theorem dX11_readsAlternative_99 : decode cX11_readsAlternative 99 = .ok (.iconst 0, 1) := by decide +kernel
theorem dX11_readsAlternative_100 : decode cX11_readsAlternative 100 = .ok (.goto 9, 3) := by decide +kernel
theorem dX11_readsAlternative_103 : decode cX11_readsAlternative 103 = .ok (.iconst 1, 1) := by decide +kernel
theorem dX11_readsAlternative_104 : decode cX11_readsAlternative 104 = .ok (.iload_n 3, 1) := by decide +kernel
theorem dX11_readsAlternative_105 : decode cX11_readsAlternative 105 = .ok (.bipush 81, 2) := by decide +kernel
theorem dX11_readsAlternative_107 : decode cX11_readsAlternative 107 = .ok (.isub, 1) := by decide +kernel
theorem dX11_readsAlternative_108 : decode cX11_readsAlternative 108 = .ok (.ishl, 1) := by decide +kernel
theorem dX11_readsAlternative_109 : decode cX11_readsAlternative 109 = .ok (.ior, 1) := by decide +kernel
theorem dX11_readsAlternative_110 : decode cX11_readsAlternative 110 = .ok (.iastore, 1) := by decide +kernel
theorem dX11_readsAlternative_111 : decode cX11_readsAlternative 111 = .ok (.aload_n 0, 1) := by decide +kernel
theorem dX11_readsAlternative_112 : decode cX11_readsAlternative 112 = .ok (.dup, 1) := by decide +kernel
theorem dX11_readsAlternative_113 : decode cX11_readsAlternative 113 = .ok (.getfield 136, 3) := by decide +kernel
theorem dX11_readsAlternative_116 : decode cX11_readsAlternative 116 = .ok (.iconst 1, 1) := by decide +kernel
theorem dX11_readsAlternative_117 : decode cX11_readsAlternative 117 = .ok (.iadd, 1) := by decide +kernel
theorem dX11_readsAlternative_118 : decode cX11_readsAlternative 118 = .ok (.putfield 136, 3) := by decide +kernel
theorem dX11_readsAlternative_121 : decode cX11_readsAlternative 121 = .ok (.goto (-79), 3) := by decide +kernel
theorem dX11_readsAlternative_124 : decode cX11_readsAlternative 124 = .ok (.aload_n 0, 1) := by decide +kernel
theorem dX11_readsAlternative_125 : decode cX11_readsAlternative 125 = .ok (.getfield 53, 3) := by decide +kernel
theorem dX11_readsAlternative_128 : decode cX11_readsAlternative 128 = .ok (.bipush 6, 2) := by decide +kernel
theorem dX11_readsAlternative_130 : decode cX11_readsAlternative 130 = .ok (.iload_n 1, 1) := by decide +kernel
theorem dX11_readsAlternative_131 : decode cX11_readsAlternative 131 = .ok (.imul, 1) := by decide +kernel
theorem dX11_readsAlternative_132 : decode cX11_readsAlternative 132 = .ok (.iconst 3, 1) := by decide +kernel
theorem dX11_readsAlternative_133 : decode cX11_readsAlternative 133 = .ok (.iadd, 1) := by decide +kernel
theorem dX11_readsAlternative_134 : decode cX11_readsAlternative 134 = .ok (.dup2, 1) := by decide +kernel
theorem dX11_readsAlternative_135 : decode cX11_readsAlternative 135 = .ok (.iaload, 1) := by decide +kernel
theorem dX11_readsAlternative_136 : decode cX11_readsAlternative 136 = .ok (.iconst 1, 1) := by decide +kernel
theorem dX11_readsAlternative_137 : decode cX11_readsAlternative 137 = .ok (.iadd, 1) := by decide +kernel
theorem dX11_readsAlternative_138 : decode cX11_readsAlternative 138 = .ok (.iastore, 1) := by decide +kernel
theorem dX11_readsAlternative_139 : decode cX11_readsAlternative 139 = .ok (.return_, 1) := by decide +kernel
theorem dX11_readsGuard_0 : decode cX11_readsGuard 0 = .ok (.aload_n 0, 1) := by decide +kernel
theorem dX11_readsGuard_1 : decode cX11_readsGuard 1 = .ok (.bipush 63, 2) := by decide +kernel
theorem dX11_readsGuard_3 : decode cX11_readsGuard 3 = .ok (.invokevirtual 171, 3) := by decide +kernel
theorem dX11_readsGuard_6 : decode cX11_readsGuard 6 = .ok (.aload_n 0, 1) := by decide +kernel
theorem dX11_readsGuard_7 : decode cX11_readsGuard 7 = .ok (.iload_n 1, 1) := by decide +kernel
theorem dX11_readsGuard_8 : decode cX11_readsGuard 8 = .ok (.invokevirtual 174, 3) := by decide +kernel
theorem dX11_readsGuard_11 : decode cX11_readsGuard 11 = .ok (.aload_n 0, 1) := by decide +kernel
theorem dX11_readsGuard_12 : decode cX11_readsGuard 12 = .ok (.getfield 139, 3) := by decide +kernel
theorem dX11_readsGuard_15 : decode cX11_readsGuard 15 = .ok (.ifCond .ne 53, 3) := by decide +kernel
theorem dX11_readsGuard_18 : decode cX11_readsGuard 18 = .ok (.aload_n 0, 1) := by decide +kernel
theorem dX11_readsGuard_19 : decode cX11_readsGuard 19 = .ok (.invokevirtual 142, 3) := by decide +kernel
theorem dX11_readsGuard_22 : decode cX11_readsGuard 22 = .ok (.bipush 124, 2) := by decide +kernel
theorem dX11_readsGuard_24 : decode cX11_readsGuard 24 = .ok (.if_icmp .ne 44, 3) := by decide +kernel
theorem dX11_readsGuard_27 : decode cX11_readsGuard 27 = .ok (.aload_n 0, 1) := by decide +kernel
theorem dX11_readsGuard_28 : decode cX11_readsGuard 28 = .ok (.getfield 53, 3) := by decide +kernel
theorem dX11_readsGuard_31 : decode cX11_readsGuard 31 = .ok (.bipush 6, 2) := by decide +kernel
theorem dX11_readsGuard_33 : decode cX11_readsGuard 33 = .ok (.iload_n 1, 1) := by decide +kernel
theorem dX11_readsGuard_34 : decode cX11_readsGuard 34 = .ok (.imul, 1) := by decide +kernel
theorem dX11_readsGuard_35 : decode cX11_readsGuard 35 = .ok (.iconst 3, 1) := by decide +kernel
theorem dX11_readsGuard_36 : decode cX11_readsGuard 36 = .ok (.iadd, 1) := by decide +kernel
theorem dX11_readsGuard_37 : decode cX11_readsGuard 37 = .ok (.iaload, 1) := by decide +kernel
theorem dX11_readsGuard_38 : decode cX11_readsGuard 38 = .ok (.iconst 3, 1) := by decide +kernel
theorem dX11_readsGuard_39 : decode cX11_readsGuard 39 = .ok (.if_icmp .ne 8, 3) := by decide +kernel
theorem dX11_readsGuard_42 : decode cX11_readsGuard 42 = .ok (.aload_n 0, 1) := by decide +kernel
theorem dX11_readsGuard_43 : decode cX11_readsGuard 43 = .ok (.iconst 2, 1) := by decide +kernel
theorem dX11_readsGuard_44 : decode cX11_readsGuard 44 = .ok (.invokevirtual 145, 3) := by decide +kernel
theorem dX11_readsGuard_47 : decode cX11_readsGuard 47 = .ok (.aload_n 0, 1) := by decide +kernel
theorem dX11_readsGuard_48 : decode cX11_readsGuard 48 = .ok (.bipush 124, 2) := by decide +kernel
theorem dX11_readsGuard_50 : decode cX11_readsGuard 50 = .ok (.invokevirtual 171, 3) := by decide +kernel
theorem dX11_readsGuard_53 : decode cX11_readsGuard 53 = .ok (.aload_n 0, 1) := by decide +kernel
theorem dX11_readsGuard_54 : decode cX11_readsGuard 54 = .ok (.getfield 139, 3) := by decide +kernel
theorem dX11_readsGuard_57 : decode cX11_readsGuard 57 = .ok (.ifCond .ne (-46), 3) := by decide +kernel
theorem dX11_readsGuard_60 : decode cX11_readsGuard 60 = .ok (.aload_n 0, 1) := by decide +kernel
theorem dX11_readsGuard_61 : decode cX11_readsGuard 61 = .ok (.iload_n 1, 1) := by decide +kernel
theorem dX11_readsGuard_62 : decode cX11_readsGuard 62 = .ok (.invokevirtual 174, 3) := by decide +kernel
theorem dX11_readsGuard_65 : decode cX11_readsGuard 65 = .ok (.goto (-54), 3) := by decide +kernel
theorem dX11_readsGuard_68 : decode cX11_readsGuard 68 = .ok (.return_, 1) := by decide +kernel
theorem dX11_readsEffect_0 : decode cX11_readsEffect 0 = .ok (.aload_n 0, 1) := by decide +kernel
theorem dX11_readsEffect_1 : decode cX11_readsEffect 1 = .ok (.bipush 33, 2) := by decide +kernel
theorem dX11_readsEffect_3 : decode cX11_readsEffect 3 = .ok (.invokevirtual 171, 3) := by decide +kernel
theorem dX11_readsEffect_6 : decode cX11_readsEffect 6 = .ok (.aload_n 0, 1) := by decide +kernel
theorem dX11_readsEffect_7 : decode cX11_readsEffect 7 = .ok (.invokevirtual 167, 3) := by decide +kernel
theorem dX11_readsEffect_10 : decode cX11_readsEffect 10 = .ok (.ifCond .ne 8, 3) := by decide +kernel
theorem dX11_readsEffect_13 : decode cX11_readsEffect 13 = .ok (.aload_n 0, 1) := by decide +kernel
theorem dX11_readsEffect_14 : decode cX11_readsEffect 14 = .ok (.iconst 1, 1) := by decide +kernel
theorem dX11_readsEffect_15 : decode cX11_readsEffect 15 = .ok (.invokevirtual 145, 3) := by decide +kernel
theorem dX11_readsEffect_18 : decode cX11_readsEffect 18 = .ok (.aload_n 0, 1) := by decide +kernel
theorem dX11_readsEffect_19 : decode cX11_readsEffect 19 = .ok (.getfield 139, 3) := by decide +kernel
theorem dX11_readsEffect_22 : decode cX11_readsEffect 22 = .ok (.ifCond .ne 111, 3) := by decide +kernel
theorem dX11_readsEffect_25 : decode cX11_readsEffect 25 = .ok (.aload_n 0, 1) := by decide +kernel
theorem dX11_readsEffect_26 : decode cX11_readsEffect 26 = .ok (.invokevirtual 167, 3) := by decide +kernel
theorem dX11_readsEffect_29 : decode cX11_readsEffect 29 = .ok (.ifCond .eq 104, 3) := by decide +kernel
theorem dX11_readsEffect_32 : decode cX11_readsEffect 32 = .ok (.aload_n 0, 1) := by decide +kernel
theorem dX11_readsEffect_33 : decode cX11_readsEffect 33 = .ok (.invokevirtual 142, 3) := by decide +kernel
theorem dX11_readsEffect_36 : decode cX11_readsEffect 36 = .ok (.istore_n 2, 1) := by decide +kernel
theorem dX11_readsEffect_37 : decode cX11_readsEffect 37 = .ok (.iload_n 2, 1) := by decide +kernel
theorem dX11_readsEffect_38 : decode cX11_readsEffect 38 = .ok (.bipush 113, 2) := by decide +kernel
theorem dX11_readsEffect_40 : decode cX11_readsEffect 40 = .ok (.if_icmp .lt 10, 3) := by decide +kernel
theorem dX11_readsEffect_43 : decode cX11_readsEffect 43 = .ok (.iload_n 2, 1) := by decide +kernel
theorem dX11_readsEffect_44 : decode cX11_readsEffect 44 = .ok (.bipush 113, 2) := by decide +kernel
theorem dX11_readsEffect_46 : decode cX11_readsEffect 46 = .ok (.isub, 1) := by decide +kernel
theorem dX11_readsEffect_47 : decode cX11_readsEffect 47 = .ok (.goto 7, 3) := by decide +kernel
theorem dX11_readsEffect_50 : decode cX11_readsEffect 50 = .ok (.iload_n 2, 1) := by decide +kernel
theorem dX11_readsEffect_51 : decode cX11_readsEffect 51 = .ok (.bipush 81, 2) := by decide +kernel
theorem dX11_readsEffect_53 : decode cX11_readsEffect 53 = .ok (.isub, 1) := by decide +kernel
theorem dX11_readsEffect_54 : decode cX11_readsEffect 54 = .ok (.istore_n 3, 1) := by decide +kernel
theorem dX11_readsEffect_55 : decode cX11_readsEffect 55 = .ok (.aload_n 0, 1) := by decide +kernel
theorem dX11_readsEffect_56 : decode cX11_readsEffect 56 = .ok (.getfield 53, 3) := by decide +kernel
theorem dX11_readsEffect_59 : decode cX11_readsEffect 59 = .ok (.bipush 6, 2) := by decide +kernel
theorem dX11_readsEffect_61 : decode cX11_readsEffect 61 = .ok (.iload_n 1, 1) := by decide +kernel
theorem dX11_readsEffect_62 : decode cX11_readsEffect 62 = .ok (.imul, 1) := by decide +kernel
theorem dX11_readsEffect_63 : decode cX11_readsEffect 63 = .ok (.iconst 4, 1) := by decide +kernel
theorem dX11_readsEffect_64 : decode cX11_readsEffect 64 = .ok (.iadd, 1) := by decide +kernel
theorem dX11_readsEffect_65 : decode cX11_readsEffect 65 = .ok (.iaload, 1) := by decide +kernel
theorem dX11_readsEffect_66 : decode cX11_readsEffect 66 = .ok (.aload_n 0, 1) := by decide +kernel
theorem dX11_readsEffect_67 : decode cX11_readsEffect 67 = .ok (.getfield 53, 3) := by decide +kernel
theorem dX11_readsEffect_70 : decode cX11_readsEffect 70 = .ok (.bipush 6, 2) := by decide +kernel
theorem dX11_readsEffect_72 : decode cX11_readsEffect 72 = .ok (.iload_n 1, 1) := by decide +kernel
theorem dX11_readsEffect_73 : decode cX11_readsEffect 73 = .ok (.imul, 1) := by decide +kernel
theorem dX11_readsEffect_74 : decode cX11_readsEffect 74 = .ok (.iconst 5, 1) := by decide +kernel
theorem dX11_readsEffect_75 : decode cX11_readsEffect 75 = .ok (.iadd, 1) := by decide +kernel
theorem dX11_readsEffect_76 : decode cX11_readsEffect 76 = .ok (.iaload, 1) := by decide +kernel
theorem dX11_readsEffect_77 : decode cX11_readsEffect 77 = .ok (.ior, 1) := by decide +kernel
theorem dX11_readsEffect_78 : decode cX11_readsEffect 78 = .ok (.iload_n 3, 1) := by decide +kernel
theorem dX11_readsEffect_79 : decode cX11_readsEffect 79 = .ok (.invokestatic 94, 3) := by decide +kernel
theorem dX11_readsEffect_82 : decode cX11_readsEffect 82 = .ok (.ifCond .eq 11, 3) := by decide +kernel
theorem dX11_readsEffect_85 : decode cX11_readsEffect 85 = .ok (.aload_n 0, 1) := by decide +kernel
theorem dX11_readsEffect_86 : decode cX11_readsEffect 86 = .ok (.iconst 4, 1) := by decide +kernel
theorem dX11_readsEffect_87 : decode cX11_readsEffect 87 = .ok (.invokevirtual 145, 3) := by decide +kernel
theorem dX11_readsEffect_90 : decode cX11_readsEffect 90 = .ok (.goto 40, 3) := by decide +kernel
theorem dX11_readsEffect_93 : decode cX11_readsEffect 93 = .ok (.aload_n 0, 1) := by decide +kernel
theorem dX11_readsEffect_94 : decode cX11_readsEffect 94 = .ok (.getfield 53, 3) := by decide +kernel
theorem dX11_readsEffect_97 : decode cX11_readsEffect 97 = .ok (.bipush 6, 2) := by decide +kernel
theorem dX11_readsEffect_99 : decode cX11_readsEffect 99 = .ok (.iload_n 1, 1) := by decide +kernel
theorem dX11_readsEffect_100 : decode cX11_readsEffect 100 = .ok (.imul, 1) := by decide +kernel
theorem dX11_readsEffect_101 : decode cX11_readsEffect 101 = .ok (.iload_n 2, 1) := by decide +kernel
theorem dX11_readsEffect_102 : decode cX11_readsEffect 102 = .ok (.bipush 113, 2) := by decide +kernel
theorem dX11_readsEffect_104 : decode cX11_readsEffect 104 = .ok (.if_icmp .lt 7, 3) := by decide +kernel
theorem dX11_readsEffect_107 : decode cX11_readsEffect 107 = .ok (.iconst 4, 1) := by decide +kernel
theorem dX11_readsEffect_108 : decode cX11_readsEffect 108 = .ok (.goto 4, 3) := by decide +kernel
theorem dX11_readsEffect_111 : decode cX11_readsEffect 111 = .ok (.iconst 5, 1) := by decide +kernel
theorem dX11_readsEffect_112 : decode cX11_readsEffect 112 = .ok (.iadd, 1) := by decide +kernel
theorem dX11_readsEffect_113 : decode cX11_readsEffect 113 = .ok (.dup2, 1) := by decide +kernel
theorem dX11_readsEffect_114 : decode cX11_readsEffect 114 = .ok (.iaload, 1) := by decide +kernel
theorem dX11_readsEffect_115 : decode cX11_readsEffect 115 = .ok (.iconst 1, 1) := by decide +kernel
theorem dX11_readsEffect_116 : decode cX11_readsEffect 116 = .ok (.iload_n 3, 1) := by decide +kernel
theorem dX11_readsEffect_117 : decode cX11_readsEffect 117 = .ok (.ishl, 1) := by decide +kernel
theorem dX11_readsEffect_118 : decode cX11_readsEffect 118 = .ok (.ior, 1) := by decide +kernel
theorem dX11_readsEffect_119 : decode cX11_readsEffect 119 = .ok (.iastore, 1) := by decide +kernel
theorem dX11_readsEffect_120 : decode cX11_readsEffect 120 = .ok (.aload_n 0, 1) := by decide +kernel
theorem dX11_readsEffect_121 : decode cX11_readsEffect 121 = .ok (.dup, 1) := by decide +kernel
theorem dX11_readsEffect_122 : decode cX11_readsEffect 122 = .ok (.getfield 136, 3) := by decide +kernel
theorem dX11_readsEffect_125 : decode cX11_readsEffect 125 = .ok (.iconst 1, 1) := by decide +kernel
theorem dX11_readsEffect_126 : decode cX11_readsEffect 126 = .ok (.iadd, 1) := by decide +kernel
theorem dX11_readsEffect_127 : decode cX11_readsEffect 127 = .ok (.putfield 136, 3) := by decide +kernel
theorem dX11_readsEffect_130 : decode cX11_readsEffect 130 = .ok (.goto (-112), 3) := by decide +kernel
theorem dX11_readsEffect_133 : decode cX11_readsEffect 133 = .ok (.return_, 1) := by decide +kernel
theorem dX11_readsAnswer_0 : decode cX11_readsAnswer 0 = .ok (.aload_n 0, 1) := by decide +kernel
theorem dX11_readsAnswer_1 : decode cX11_readsAnswer 1 = .ok (.getfield 177, 3) := by decide +kernel
theorem dX11_readsAnswer_4 : decode cX11_readsAnswer 4 = .ok (.bipush 32, 2) := by decide +kernel
theorem dX11_readsAnswer_6 : decode cX11_readsAnswer 6 = .ok (.if_icmp .ne 8, 3) := by decide +kernel
theorem dX11_readsAnswer_9 : decode cX11_readsAnswer 9 = .ok (.aload_n 0, 1) := by decide +kernel
theorem dX11_readsAnswer_10 : decode cX11_readsAnswer 10 = .ok (.iconst 3, 1) := by decide +kernel
theorem dX11_readsAnswer_11 : decode cX11_readsAnswer 11 = .ok (.invokevirtual 145, 3) := by decide +kernel
theorem dX11_readsAnswer_14 : decode cX11_readsAnswer 14 = .ok (.aload_n 0, 1) := by decide +kernel
theorem dX11_readsAnswer_15 : decode cX11_readsAnswer 15 = .ok (.bipush 62, 2) := by decide +kernel
theorem dX11_readsAnswer_17 : decode cX11_readsAnswer 17 = .ok (.invokevirtual 171, 3) := by decide +kernel
theorem dX11_readsAnswer_20 : decode cX11_readsAnswer 20 = .ok (.aload_n 0, 1) := by decide +kernel
theorem dX11_readsAnswer_21 : decode cX11_readsAnswer 21 = .ok (.getfield 139, 3) := by decide +kernel
theorem dX11_readsAnswer_24 : decode cX11_readsAnswer 24 = .ok (.ifCond .le 4, 3) := by decide +kernel
theorem dX11_readsAnswer_27 : decode cX11_readsAnswer 27 = .ok (.return_, 1) := by decide +kernel
theorem dX11_readsAnswer_28 : decode cX11_readsAnswer 28 = .ok (.aload_n 0, 1) := by decide +kernel
theorem dX11_readsAnswer_29 : decode cX11_readsAnswer 29 = .ok (.getfield 177, 3) := by decide +kernel
theorem dX11_readsAnswer_32 : decode cX11_readsAnswer 32 = .ok (.istore_n 2, 1) := by decide +kernel
theorem dX11_readsAnswer_33 : decode cX11_readsAnswer 33 = .ok (.aload_n 0, 1) := by decide +kernel
theorem dX11_readsAnswer_34 : decode cX11_readsAnswer 34 = .ok (.dup, 1) := by decide +kernel
theorem dX11_readsAnswer_35 : decode cX11_readsAnswer 35 = .ok (.getfield 177, 3) := by decide +kernel
theorem dX11_readsAnswer_38 : decode cX11_readsAnswer 38 = .ok (.iconst 1, 1) := by decide +kernel
theorem dX11_readsAnswer_39 : decode cX11_readsAnswer 39 = .ok (.iadd, 1) := by decide +kernel
theorem dX11_readsAnswer_40 : decode cX11_readsAnswer 40 = .ok (.putfield 177, 3) := by decide +kernel
theorem dX11_readsAnswer_43 : decode cX11_readsAnswer 43 = .ok (.iconst 0, 1) := by decide +kernel
theorem dX11_readsAnswer_44 : decode cX11_readsAnswer 44 = .ok (.istore_n 3, 1) := by decide +kernel
theorem dX11_readsAnswer_45 : decode cX11_readsAnswer 45 = .ok (.iload_n 3, 1) := by decide +kernel
theorem dX11_readsAnswer_46 : decode cX11_readsAnswer 46 = .ok (.bipush 6, 2) := by decide +kernel
theorem dX11_readsAnswer_48 : decode cX11_readsAnswer 48 = .ok (.if_icmp .ge 21, 3) := by decide +kernel
theorem dX11_readsAnswer_51 : decode cX11_readsAnswer 51 = .ok (.aload_n 0, 1) := by decide +kernel
theorem dX11_readsAnswer_52 : decode cX11_readsAnswer 52 = .ok (.getfield 53, 3) := by decide +kernel
theorem dX11_readsAnswer_55 : decode cX11_readsAnswer 55 = .ok (.bipush 6, 2) := by decide +kernel
theorem dX11_readsAnswer_57 : decode cX11_readsAnswer 57 = .ok (.iload_n 2, 1) := by decide +kernel
theorem dX11_readsAnswer_58 : decode cX11_readsAnswer 58 = .ok (.imul, 1) := by decide +kernel
theorem dX11_readsAnswer_59 : decode cX11_readsAnswer 59 = .ok (.iload_n 3, 1) := by decide +kernel
theorem dX11_readsAnswer_60 : decode cX11_readsAnswer 60 = .ok (.iadd, 1) := by decide +kernel
theorem dX11_readsAnswer_61 : decode cX11_readsAnswer 61 = .ok (.iconst 0, 1) := by decide +kernel
theorem dX11_readsAnswer_62 : decode cX11_readsAnswer 62 = .ok (.iastore, 1) := by decide +kernel
theorem dX11_readsAnswer_63 : decode cX11_readsAnswer 63 = .ok (.iinc 3 1, 3) := by decide +kernel
theorem dX11_readsAnswer_66 : decode cX11_readsAnswer 66 = .ok (.goto (-21), 3) := by decide +kernel
theorem dX11_readsAnswer_69 : decode cX11_readsAnswer 69 = .ok (.aload_n 0, 1) := by decide +kernel
theorem dX11_readsAnswer_70 : decode cX11_readsAnswer 70 = .ok (.getfield 53, 3) := by decide +kernel
theorem dX11_readsAnswer_73 : decode cX11_readsAnswer 73 = .ok (.bipush 6, 2) := by decide +kernel
theorem dX11_readsAnswer_75 : decode cX11_readsAnswer 75 = .ok (.iload_n 2, 1) := by decide +kernel
theorem dX11_readsAnswer_76 : decode cX11_readsAnswer 76 = .ok (.imul, 1) := by decide +kernel
theorem dX11_readsAnswer_77 : decode cX11_readsAnswer 77 = .ok (.iload_n 1, 1) := by decide +kernel
theorem dX11_readsAnswer_78 : decode cX11_readsAnswer 78 = .ok (.iastore, 1) := by decide +kernel
theorem dX11_readsAnswer_79 : decode cX11_readsAnswer 79 = .ok (.aload_n 0, 1) := by decide +kernel
theorem dX11_readsAnswer_80 : decode cX11_readsAnswer 80 = .ok (.getfield 53, 3) := by decide +kernel
theorem dX11_readsAnswer_83 : decode cX11_readsAnswer 83 = .ok (.bipush 6, 2) := by decide +kernel
theorem dX11_readsAnswer_85 : decode cX11_readsAnswer 85 = .ok (.iload_n 2, 1) := by decide +kernel
theorem dX11_readsAnswer_86 : decode cX11_readsAnswer 86 = .ok (.imul, 1) := by decide +kernel
theorem dX11_readsAnswer_87 : decode cX11_readsAnswer 87 = .ok (.iconst 1, 1) := by decide +kernel
theorem dX11_readsAnswer_88 : decode cX11_readsAnswer 88 = .ok (.iadd, 1) := by decide +kernel
theorem dX11_readsAnswer_89 : decode cX11_readsAnswer 89 = .ok (.aload_n 0, 1) := by decide +kernel
theorem dX11_readsAnswer_90 : decode cX11_readsAnswer 90 = .ok (.invokevirtual 180, 3) := by decide +kernel
theorem dX11_readsAnswer_93 : decode cX11_readsAnswer 93 = .ok (.iastore, 1) := by decide +kernel
theorem dX11_readsAnswer_94 : decode cX11_readsAnswer 94 = .ok (.aload_n 0, 1) := by decide +kernel
theorem dX11_readsAnswer_95 : decode cX11_readsAnswer 95 = .ok (.getfield 139, 3) := by decide +kernel
theorem dX11_readsAnswer_98 : decode cX11_readsAnswer 98 = .ok (.ifCond .ne 48, 3) := by decide +kernel
theorem dX11_readsAnswer_101 : decode cX11_readsAnswer 101 = .ok (.aload_n 0, 1) := by decide +kernel
theorem dX11_readsAnswer_102 : decode cX11_readsAnswer 102 = .ok (.invokevirtual 142, 3) := by decide +kernel
theorem dX11_readsAnswer_105 : decode cX11_readsAnswer 105 = .ok (.i2l, 1) := by decide +kernel
theorem dX11_readsAnswer_106 : decode cX11_readsAnswer 106 = .ok (.ldc2_w 183, 3) := by decide +kernel
theorem dX11_readsAnswer_109 : decode cX11_readsAnswer 109 = .ok (.ldc2_w 185, 3) := by decide +kernel
theorem dX11_readsAnswer_112 : decode cX11_readsAnswer 112 = .ok (.invokestatic 88, 3) := by decide +kernel
theorem dX11_readsAnswer_115 : decode cX11_readsAnswer 115 = .ok (.ifCond .eq 31, 3) := by decide +kernel
theorem dX11_readsAnswer_118 : decode cX11_readsAnswer 118 = .ok (.aload_n 0, 1) := by decide +kernel
theorem dX11_readsAnswer_119 : decode cX11_readsAnswer 119 = .ok (.getfield 53, 3) := by decide +kernel
theorem dX11_readsAnswer_122 : decode cX11_readsAnswer 122 = .ok (.bipush 6, 2) := by decide +kernel
theorem dX11_readsAnswer_124 : decode cX11_readsAnswer 124 = .ok (.iload_n 2, 1) := by decide +kernel
theorem dX11_readsAnswer_125 : decode cX11_readsAnswer 125 = .ok (.imul, 1) := by decide +kernel
theorem dX11_readsAnswer_126 : decode cX11_readsAnswer 126 = .ok (.iconst 2, 1) := by decide +kernel
theorem dX11_readsAnswer_127 : decode cX11_readsAnswer 127 = .ok (.iadd, 1) := by decide +kernel
theorem dX11_readsAnswer_128 : decode cX11_readsAnswer 128 = .ok (.aload_n 0, 1) := by decide +kernel
theorem dX11_readsAnswer_129 : decode cX11_readsAnswer 129 = .ok (.invokevirtual 142, 3) := by decide +kernel
theorem dX11_readsAnswer_132 : decode cX11_readsAnswer 132 = .ok (.bipush 48, 2) := by decide +kernel
theorem dX11_readsAnswer_134 : decode cX11_readsAnswer 134 = .ok (.isub, 1) := by decide +kernel
theorem dX11_readsAnswer_135 : decode cX11_readsAnswer 135 = .ok (.iastore, 1) := by decide +kernel
theorem dX11_readsAnswer_136 : decode cX11_readsAnswer 136 = .ok (.aload_n 0, 1) := by decide +kernel
theorem dX11_readsAnswer_137 : decode cX11_readsAnswer 137 = .ok (.dup, 1) := by decide +kernel
theorem dX11_readsAnswer_138 : decode cX11_readsAnswer 138 = .ok (.getfield 136, 3) := by decide +kernel
theorem dX11_readsAnswer_141 : decode cX11_readsAnswer 141 = .ok (.iconst 1, 1) := by decide +kernel
theorem dX11_readsAnswer_142 : decode cX11_readsAnswer 142 = .ok (.iadd, 1) := by decide +kernel
theorem dX11_readsAnswer_143 : decode cX11_readsAnswer 143 = .ok (.putfield 136, 3) := by decide +kernel
theorem dX11_readsAnswer_146 : decode cX11_readsAnswer 146 = .ok (.aload_n 0, 1) := by decide +kernel
theorem dX11_readsAnswer_147 : decode cX11_readsAnswer 147 = .ok (.getfield 139, 3) := by decide +kernel
theorem dX11_readsAnswer_150 : decode cX11_readsAnswer 150 = .ok (.ifCond .ne 17, 3) := by decide +kernel
theorem dX11_readsAnswer_153 : decode cX11_readsAnswer 153 = .ok (.aload_n 0, 1) := by decide +kernel
theorem dX11_readsAnswer_154 : decode cX11_readsAnswer 154 = .ok (.invokevirtual 142, 3) := by decide +kernel
theorem dX11_readsAnswer_157 : decode cX11_readsAnswer 157 = .ok (.bipush 63, 2) := by decide +kernel
theorem dX11_readsAnswer_159 : decode cX11_readsAnswer 159 = .ok (.if_icmp .ne 8, 3) := by decide +kernel
theorem dX11_readsAnswer_162 : decode cX11_readsAnswer 162 = .ok (.aload_n 0, 1) := by decide +kernel
theorem dX11_readsAnswer_163 : decode cX11_readsAnswer 163 = .ok (.iload_n 2, 1) := by decide +kernel
theorem dX11_readsAnswer_164 : decode cX11_readsAnswer 164 = .ok (.invokevirtual 187, 3) := by decide +kernel
theorem dX11_readsAnswer_167 : decode cX11_readsAnswer 167 = .ok (.aload_n 0, 1) := by decide +kernel
theorem dX11_readsAnswer_168 : decode cX11_readsAnswer 168 = .ok (.getfield 139, 3) := by decide +kernel
theorem dX11_readsAnswer_171 : decode cX11_readsAnswer 171 = .ok (.ifCond .ne 17, 3) := by decide +kernel
theorem dX11_readsAnswer_174 : decode cX11_readsAnswer 174 = .ok (.aload_n 0, 1) := by decide +kernel
theorem dX11_readsAnswer_175 : decode cX11_readsAnswer 175 = .ok (.invokevirtual 142, 3) := by decide +kernel
theorem dX11_readsAnswer_178 : decode cX11_readsAnswer 178 = .ok (.bipush 33, 2) := by decide +kernel
theorem dX11_readsAnswer_180 : decode cX11_readsAnswer 180 = .ok (.if_icmp .ne 8, 3) := by decide +kernel
theorem dX11_readsAnswer_183 : decode cX11_readsAnswer 183 = .ok (.aload_n 0, 1) := by decide +kernel
theorem dX11_readsAnswer_184 : decode cX11_readsAnswer 184 = .ok (.iload_n 2, 1) := by decide +kernel
theorem dX11_readsAnswer_185 : decode cX11_readsAnswer 185 = .ok (.invokevirtual 190, 3) := by decide +kernel
theorem dX11_readsAnswer_188 : decode cX11_readsAnswer 188 = .ok (.return_, 1) := by decide +kernel
theorem dX11_readsClause_0 : decode cX11_readsClause 0 = .ok (.aload_n 0, 1) := by decide +kernel
theorem dX11_readsClause_1 : decode cX11_readsClause 1 = .ok (.invokevirtual 180, 3) := by decide +kernel
theorem dX11_readsClause_4 : decode cX11_readsClause 4 = .ok (.istore_n 1, 1) := by decide +kernel
theorem dX11_readsClause_5 : decode cX11_readsClause 5 = .ok (.aload_n 0, 1) := by decide +kernel
theorem dX11_readsClause_6 : decode cX11_readsClause 6 = .ok (.getfield 139, 3) := by decide +kernel
theorem dX11_readsClause_9 : decode cX11_readsClause 9 = .ok (.ifCond .ne 37, 3) := by decide +kernel
theorem dX11_readsClause_12 : decode cX11_readsClause 12 = .ok (.aload_n 0, 1) := by decide +kernel
theorem dX11_readsClause_13 : decode cX11_readsClause 13 = .ok (.invokevirtual 142, 3) := by decide +kernel
theorem dX11_readsClause_16 : decode cX11_readsClause 16 = .ok (.bipush 46, 2) := by decide +kernel
theorem dX11_readsClause_18 : decode cX11_readsClause 18 = .ok (.if_icmp .ne 28, 3) := by decide +kernel
theorem dX11_readsClause_21 : decode cX11_readsClause 21 = .ok (.aload_n 0, 1) := by decide +kernel
theorem dX11_readsClause_22 : decode cX11_readsClause 22 = .ok (.dup, 1) := by decide +kernel
theorem dX11_readsClause_23 : decode cX11_readsClause 23 = .ok (.getfield 136, 3) := by decide +kernel
theorem dX11_readsClause_26 : decode cX11_readsClause 26 = .ok (.iconst 1, 1) := by decide +kernel
theorem dX11_readsClause_27 : decode cX11_readsClause 27 = .ok (.iadd, 1) := by decide +kernel
theorem dX11_readsClause_28 : decode cX11_readsClause 28 = .ok (.putfield 136, 3) := by decide +kernel
theorem dX11_readsClause_31 : decode cX11_readsClause 31 = .ok (.aload_n 0, 1) := by decide +kernel
theorem dX11_readsClause_32 : decode cX11_readsClause 32 = .ok (.dup, 1) := by decide +kernel
theorem dX11_readsClause_33 : decode cX11_readsClause 33 = .ok (.getfield 193, 3) := by decide +kernel
theorem dX11_readsClause_36 : decode cX11_readsClause 36 = .ok (.iconst 1, 1) := by decide +kernel
theorem dX11_readsClause_37 : decode cX11_readsClause 37 = .ok (.iload_n 1, 1) := by decide +kernel
theorem dX11_readsClause_38 : decode cX11_readsClause 38 = .ok (.ishl, 1) := by decide +kernel
theorem dX11_readsClause_39 : decode cX11_readsClause 39 = .ok (.ior, 1) := by decide +kernel
theorem dX11_readsClause_40 : decode cX11_readsClause 40 = .ok (.putfield 193, 3) := by decide +kernel
theorem dX11_readsClause_43 : decode cX11_readsClause 43 = .ok (.goto 32, 3) := by decide +kernel
theorem dX11_readsClause_46 : decode cX11_readsClause 46 = .ok (.aload_n 0, 1) := by decide +kernel
theorem dX11_readsClause_47 : decode cX11_readsClause 47 = .ok (.getfield 139, 3) := by decide +kernel
theorem dX11_readsClause_50 : decode cX11_readsClause 50 = .ok (.ifCond .ne 20, 3) := by decide +kernel
theorem dX11_readsClause_53 : decode cX11_readsClause 53 = .ok (.aload_n 0, 1) := by decide +kernel
theorem dX11_readsClause_54 : decode cX11_readsClause 54 = .ok (.invokevirtual 142, 3) := by decide +kernel
theorem dX11_readsClause_57 : decode cX11_readsClause 57 = .ok (.bipush 62, 2) := by decide +kernel
theorem dX11_readsClause_59 : decode cX11_readsClause 59 = .ok (.if_icmp .ne 11, 3) := by decide +kernel
theorem dX11_readsClause_62 : decode cX11_readsClause 62 = .ok (.aload_n 0, 1) := by decide +kernel
theorem dX11_readsClause_63 : decode cX11_readsClause 63 = .ok (.iload_n 1, 1) := by decide +kernel
theorem dX11_readsClause_64 : decode cX11_readsClause 64 = .ok (.invokevirtual 196, 3) := by decide +kernel
theorem dX11_readsClause_67 : decode cX11_readsClause 67 = .ok (.goto 8, 3) := by decide +kernel
theorem dX11_readsClause_70 : decode cX11_readsClause 70 = .ok (.aload_n 0, 1) := by decide +kernel
theorem dX11_readsClause_71 : decode cX11_readsClause 71 = .ok (.iconst 1, 1) := by decide +kernel
theorem dX11_readsClause_72 : decode cX11_readsClause 72 = .ok (.invokevirtual 145, 3) := by decide +kernel
theorem dX11_readsClause_75 : decode cX11_readsClause 75 = .ok (.aload_n 0, 1) := by decide +kernel
theorem dX11_readsClause_76 : decode cX11_readsClause 76 = .ok (.getfield 139, 3) := by decide +kernel
theorem dX11_readsClause_79 : decode cX11_readsClause 79 = .ok (.ifCond .ne 9, 3) := by decide +kernel
theorem dX11_readsClause_82 : decode cX11_readsClause 82 = .ok (.aload_n 0, 1) := by decide +kernel
theorem dX11_readsClause_83 : decode cX11_readsClause 83 = .ok (.bipush 59, 2) := by decide +kernel
theorem dX11_readsClause_85 : decode cX11_readsClause 85 = .ok (.invokevirtual 171, 3) := by decide +kernel
theorem dX11_readsClause_88 : decode cX11_readsClause 88 = .ok (.return_, 1) := by decide +kernel
theorem dX11_keeps_0 : decode cX11_keeps 0 = .ok (.aload_n 0, 1) := by decide +kernel
theorem dX11_keeps_1 : decode cX11_keeps 1 = .ok (.aload_n 0, 1) := by decide +kernel
theorem dX11_keeps_2 : decode cX11_keeps 2 = .ok (.getfield 177, 3) := by decide +kernel
theorem dX11_keeps_5 : decode cX11_keeps 5 = .ok (.putfield 85, 3) := by decide +kernel
theorem dX11_keeps_8 : decode cX11_keeps 8 = .ok (.aload_n 0, 1) := by decide +kernel
theorem dX11_keeps_9 : decode cX11_keeps 9 = .ok (.aload_n 0, 1) := by decide +kernel
theorem dX11_keeps_10 : decode cX11_keeps 10 = .ok (.getfield 153, 3) := by decide +kernel
theorem dX11_keeps_13 : decode cX11_keeps 13 = .ok (.putfield 81, 3) := by decide +kernel
theorem dX11_keeps_16 : decode cX11_keeps 16 = .ok (.aload_n 0, 1) := by decide +kernel
theorem dX11_keeps_17 : decode cX11_keeps 17 = .ok (.aload_n 0, 1) := by decide +kernel
theorem dX11_keeps_18 : decode cX11_keeps 18 = .ok (.getfield 193, 3) := by decide +kernel
theorem dX11_keeps_21 : decode cX11_keeps 21 = .ok (.putfield 98, 3) := by decide +kernel
theorem dX11_keeps_24 : decode cX11_keeps 24 = .ok (.aload_n 0, 1) := by decide +kernel
theorem dX11_keeps_25 : decode cX11_keeps 25 = .ok (.aload_n 0, 1) := by decide +kernel
theorem dX11_keeps_26 : decode cX11_keeps 26 = .ok (.getfield 156, 3) := by decide +kernel
theorem dX11_keeps_29 : decode cX11_keeps 29 = .ok (.putfield 112, 3) := by decide +kernel
theorem dX11_keeps_32 : decode cX11_keeps 32 = .ok (.iconst 0, 1) := by decide +kernel
theorem dX11_keeps_33 : decode cX11_keeps 33 = .ok (.istore_n 1, 1) := by decide +kernel
theorem dX11_keeps_34 : decode cX11_keeps 34 = .ok (.iload_n 1, 1) := by decide +kernel
theorem dX11_keeps_35 : decode cX11_keeps 35 = .ok (.aload_n 0, 1) := by decide +kernel
theorem dX11_keeps_36 : decode cX11_keeps 36 = .ok (.getfield 85, 3) := by decide +kernel
theorem dX11_keeps_39 : decode cX11_keeps 39 = .ok (.if_icmp .ge 116, 3) := by decide +kernel
theorem dX11_keeps_42 : decode cX11_keeps 42 = .ok (.aload_n 0, 1) := by decide +kernel
theorem dX11_keeps_43 : decode cX11_keeps 43 = .ok (.getfield 7, 3) := by decide +kernel
theorem dX11_keeps_46 : decode cX11_keeps 46 = .ok (.iload_n 1, 1) := by decide +kernel
theorem dX11_keeps_47 : decode cX11_keeps 47 = .ok (.aload_n 0, 1) := by decide +kernel
theorem dX11_keeps_48 : decode cX11_keeps 48 = .ok (.getfield 53, 3) := by decide +kernel
theorem dX11_keeps_51 : decode cX11_keeps 51 = .ok (.bipush 6, 2) := by decide +kernel
theorem dX11_keeps_53 : decode cX11_keeps 53 = .ok (.iload_n 1, 1) := by decide +kernel
theorem dX11_keeps_54 : decode cX11_keeps 54 = .ok (.imul, 1) := by decide +kernel
theorem dX11_keeps_55 : decode cX11_keeps 55 = .ok (.iaload, 1) := by decide +kernel
theorem dX11_keeps_56 : decode cX11_keeps 56 = .ok (.iastore, 1) := by decide +kernel
theorem dX11_keeps_57 : decode cX11_keeps 57 = .ok (.aload_n 0, 1) := by decide +kernel
theorem dX11_keeps_58 : decode cX11_keeps 58 = .ok (.getfield 13, 3) := by decide +kernel
theorem dX11_keeps_61 : decode cX11_keeps 61 = .ok (.iload_n 1, 1) := by decide +kernel
theorem dX11_keeps_62 : decode cX11_keeps 62 = .ok (.aload_n 0, 1) := by decide +kernel
theorem dX11_keeps_63 : decode cX11_keeps 63 = .ok (.getfield 53, 3) := by decide +kernel
theorem dX11_keeps_66 : decode cX11_keeps 66 = .ok (.bipush 6, 2) := by decide +kernel
theorem dX11_keeps_68 : decode cX11_keeps 68 = .ok (.iload_n 1, 1) := by decide +kernel
theorem dX11_keeps_69 : decode cX11_keeps 69 = .ok (.imul, 1) := by decide +kernel
theorem dX11_keeps_70 : decode cX11_keeps 70 = .ok (.iconst 1, 1) := by decide +kernel
theorem dX11_keeps_71 : decode cX11_keeps 71 = .ok (.iadd, 1) := by decide +kernel
theorem dX11_keeps_72 : decode cX11_keeps 72 = .ok (.iaload, 1) := by decide +kernel
theorem dX11_keeps_73 : decode cX11_keeps 73 = .ok (.iastore, 1) := by decide +kernel
theorem dX11_keeps_74 : decode cX11_keeps 74 = .ok (.aload_n 0, 1) := by decide +kernel
theorem dX11_keeps_75 : decode cX11_keeps 75 = .ok (.getfield 16, 3) := by decide +kernel
theorem dX11_keeps_78 : decode cX11_keeps 78 = .ok (.iload_n 1, 1) := by decide +kernel
theorem dX11_keeps_79 : decode cX11_keeps 79 = .ok (.aload_n 0, 1) := by decide +kernel
theorem dX11_keeps_80 : decode cX11_keeps 80 = .ok (.getfield 53, 3) := by decide +kernel
theorem dX11_keeps_83 : decode cX11_keeps 83 = .ok (.bipush 6, 2) := by decide +kernel
theorem dX11_keeps_85 : decode cX11_keeps 85 = .ok (.iload_n 1, 1) := by decide +kernel
theorem dX11_keeps_86 : decode cX11_keeps 86 = .ok (.imul, 1) := by decide +kernel
theorem dX11_keeps_87 : decode cX11_keeps 87 = .ok (.iconst 2, 1) := by decide +kernel
theorem dX11_keeps_88 : decode cX11_keeps 88 = .ok (.iadd, 1) := by decide +kernel
theorem dX11_keeps_89 : decode cX11_keeps 89 = .ok (.iaload, 1) := by decide +kernel
theorem dX11_keeps_90 : decode cX11_keeps 90 = .ok (.iastore, 1) := by decide +kernel
theorem dX11_keeps_91 : decode cX11_keeps 91 = .ok (.aload_n 0, 1) := by decide +kernel
theorem dX11_keeps_92 : decode cX11_keeps 92 = .ok (.getfield 19, 3) := by decide +kernel
theorem dX11_keeps_95 : decode cX11_keeps 95 = .ok (.iload_n 1, 1) := by decide +kernel
theorem dX11_keeps_96 : decode cX11_keeps 96 = .ok (.aload_n 0, 1) := by decide +kernel
theorem dX11_keeps_97 : decode cX11_keeps 97 = .ok (.getfield 53, 3) := by decide +kernel
theorem dX11_keeps_100 : decode cX11_keeps 100 = .ok (.bipush 6, 2) := by decide +kernel
theorem dX11_keeps_102 : decode cX11_keeps 102 = .ok (.iload_n 1, 1) := by decide +kernel
theorem dX11_keeps_103 : decode cX11_keeps 103 = .ok (.imul, 1) := by decide +kernel
theorem dX11_keeps_104 : decode cX11_keeps 104 = .ok (.iconst 3, 1) := by decide +kernel
theorem dX11_keeps_105 : decode cX11_keeps 105 = .ok (.iadd, 1) := by decide +kernel
theorem dX11_keeps_106 : decode cX11_keeps 106 = .ok (.iaload, 1) := by decide +kernel
theorem dX11_keeps_107 : decode cX11_keeps 107 = .ok (.iastore, 1) := by decide +kernel
theorem dX11_keeps_108 : decode cX11_keeps 108 = .ok (.aload_n 0, 1) := by decide +kernel
theorem dX11_keeps_109 : decode cX11_keeps 109 = .ok (.getfield 28, 3) := by decide +kernel
theorem dX11_keeps_112 : decode cX11_keeps 112 = .ok (.iload_n 1, 1) := by decide +kernel
theorem dX11_keeps_113 : decode cX11_keeps 113 = .ok (.aload_n 0, 1) := by decide +kernel
theorem dX11_keeps_114 : decode cX11_keeps 114 = .ok (.getfield 53, 3) := by decide +kernel
theorem dX11_keeps_117 : decode cX11_keeps 117 = .ok (.bipush 6, 2) := by decide +kernel
theorem dX11_keeps_119 : decode cX11_keeps 119 = .ok (.iload_n 1, 1) := by decide +kernel
theorem dX11_keeps_120 : decode cX11_keeps 120 = .ok (.imul, 1) := by decide +kernel
theorem dX11_keeps_121 : decode cX11_keeps 121 = .ok (.iconst 4, 1) := by decide +kernel
theorem dX11_keeps_122 : decode cX11_keeps 122 = .ok (.iadd, 1) := by decide +kernel
theorem dX11_keeps_123 : decode cX11_keeps 123 = .ok (.iaload, 1) := by decide +kernel
theorem dX11_keeps_124 : decode cX11_keeps 124 = .ok (.iastore, 1) := by decide +kernel
theorem dX11_keeps_125 : decode cX11_keeps 125 = .ok (.aload_n 0, 1) := by decide +kernel
theorem dX11_keeps_126 : decode cX11_keeps 126 = .ok (.getfield 31, 3) := by decide +kernel
theorem dX11_keeps_129 : decode cX11_keeps 129 = .ok (.iload_n 1, 1) := by decide +kernel
theorem dX11_keeps_130 : decode cX11_keeps 130 = .ok (.aload_n 0, 1) := by decide +kernel
theorem dX11_keeps_131 : decode cX11_keeps 131 = .ok (.getfield 53, 3) := by decide +kernel
theorem dX11_keeps_134 : decode cX11_keeps 134 = .ok (.bipush 6, 2) := by decide +kernel
theorem dX11_keeps_136 : decode cX11_keeps 136 = .ok (.iload_n 1, 1) := by decide +kernel
theorem dX11_keeps_137 : decode cX11_keeps 137 = .ok (.imul, 1) := by decide +kernel
theorem dX11_keeps_138 : decode cX11_keeps 138 = .ok (.iconst 5, 1) := by decide +kernel
theorem dX11_keeps_139 : decode cX11_keeps 139 = .ok (.iadd, 1) := by decide +kernel
theorem dX11_keeps_140 : decode cX11_keeps 140 = .ok (.iaload, 1) := by decide +kernel
theorem dX11_keeps_141 : decode cX11_keeps 141 = .ok (.iastore, 1) := by decide +kernel
theorem dX11_keeps_142 : decode cX11_keeps 142 = .ok (.aload_n 0, 1) := by decide +kernel
theorem dX11_keeps_143 : decode cX11_keeps 143 = .ok (.getfield 34, 3) := by decide +kernel
theorem dX11_keeps_146 : decode cX11_keeps 146 = .ok (.iload_n 1, 1) := by decide +kernel
theorem dX11_keeps_147 : decode cX11_keeps 147 = .ok (.iconst 0, 1) := by decide +kernel
theorem dX11_keeps_148 : decode cX11_keeps 148 = .ok (.bastore, 1) := by decide +kernel
theorem dX11_keeps_149 : decode cX11_keeps 149 = .ok (.iinc 1 1, 3) := by decide +kernel
theorem dX11_keeps_152 : decode cX11_keeps 152 = .ok (.goto (-118), 3) := by decide +kernel
theorem dX11_keeps_155 : decode cX11_keeps 155 = .ok (.iconst 0, 1) := by decide +kernel
theorem dX11_keeps_156 : decode cX11_keeps 156 = .ok (.istore_n 1, 1) := by decide +kernel
theorem dX11_keeps_157 : decode cX11_keeps 157 = .ok (.iload_n 1, 1) := by decide +kernel
theorem dX11_keeps_158 : decode cX11_keeps 158 = .ok (.bipush 96, 2) := by decide +kernel
theorem dX11_keeps_160 : decode cX11_keeps 160 = .ok (.if_icmp .ge 33, 3) := by decide +kernel
theorem dX11_keeps_163 : decode cX11_keeps 163 = .ok (.aload_n 0, 1) := by decide +kernel
theorem dX11_keeps_164 : decode cX11_keeps 164 = .ok (.getfield 22, 3) := by decide +kernel
theorem dX11_keeps_167 : decode cX11_keeps 167 = .ok (.iload_n 1, 1) := by decide +kernel
theorem dX11_keeps_168 : decode cX11_keeps 168 = .ok (.aload_n 0, 1) := by decide +kernel
theorem dX11_keeps_169 : decode cX11_keeps 169 = .ok (.getfield 56, 3) := by decide +kernel
theorem dX11_keeps_172 : decode cX11_keeps 172 = .ok (.iload_n 1, 1) := by decide +kernel
theorem dX11_keeps_173 : decode cX11_keeps 173 = .ok (.iaload, 1) := by decide +kernel
theorem dX11_keeps_174 : decode cX11_keeps 174 = .ok (.iastore, 1) := by decide +kernel
theorem dX11_keeps_175 : decode cX11_keeps 175 = .ok (.aload_n 0, 1) := by decide +kernel
theorem dX11_keeps_176 : decode cX11_keeps 176 = .ok (.getfield 25, 3) := by decide +kernel
theorem dX11_keeps_179 : decode cX11_keeps 179 = .ok (.iload_n 1, 1) := by decide +kernel
theorem dX11_keeps_180 : decode cX11_keeps 180 = .ok (.aload_n 0, 1) := by decide +kernel
theorem dX11_keeps_181 : decode cX11_keeps 181 = .ok (.getfield 59, 3) := by decide +kernel
theorem dX11_keeps_184 : decode cX11_keeps 184 = .ok (.iload_n 1, 1) := by decide +kernel
theorem dX11_keeps_185 : decode cX11_keeps 185 = .ok (.iaload, 1) := by decide +kernel
theorem dX11_keeps_186 : decode cX11_keeps 186 = .ok (.iastore, 1) := by decide +kernel
theorem dX11_keeps_187 : decode cX11_keeps 187 = .ok (.iinc 1 1, 3) := by decide +kernel
theorem dX11_keeps_190 : decode cX11_keeps 190 = .ok (.goto (-33), 3) := by decide +kernel
theorem dX11_keeps_193 : decode cX11_keeps 193 = .ok (.return_, 1) := by decide +kernel
theorem dX11_talk_0 : decode cX11_talk 0 = .ok (.aload_n 0, 1) := by decide +kernel
theorem dX11_talk_1 : decode cX11_talk 1 = .ok (.iconst 0, 1) := by decide +kernel
theorem dX11_talk_2 : decode cX11_talk 2 = .ok (.putfield 136, 3) := by decide +kernel
theorem dX11_talk_5 : decode cX11_talk 5 = .ok (.aload_n 0, 1) := by decide +kernel
theorem dX11_talk_6 : decode cX11_talk 6 = .ok (.iconst 0, 1) := by decide +kernel
theorem dX11_talk_7 : decode cX11_talk 7 = .ok (.putfield 139, 3) := by decide +kernel
theorem dX11_talk_10 : decode cX11_talk 10 = .ok (.aload_n 0, 1) := by decide +kernel
theorem dX11_talk_11 : decode cX11_talk 11 = .ok (.iconst 0, 1) := by decide +kernel
theorem dX11_talk_12 : decode cX11_talk 12 = .ok (.putfield 177, 3) := by decide +kernel
theorem dX11_talk_15 : decode cX11_talk 15 = .ok (.aload_n 0, 1) := by decide +kernel
theorem dX11_talk_16 : decode cX11_talk 16 = .ok (.iconst 0, 1) := by decide +kernel
theorem dX11_talk_17 : decode cX11_talk 17 = .ok (.putfield 153, 3) := by decide +kernel
theorem dX11_talk_20 : decode cX11_talk 20 = .ok (.aload_n 0, 1) := by decide +kernel
theorem dX11_talk_21 : decode cX11_talk 21 = .ok (.iconst 0, 1) := by decide +kernel
theorem dX11_talk_22 : decode cX11_talk 22 = .ok (.putfield 193, 3) := by decide +kernel
theorem dX11_talk_25 : decode cX11_talk 25 = .ok (.aload_n 0, 1) := by decide +kernel
theorem dX11_talk_26 : decode cX11_talk 26 = .ok (.iconst 0, 1) := by decide +kernel
theorem dX11_talk_27 : decode cX11_talk 27 = .ok (.putfield 156, 3) := by decide +kernel
theorem dX11_talk_30 : decode cX11_talk 30 = .ok (.aload_n 0, 1) := by decide +kernel
theorem dX11_talk_31 : decode cX11_talk 31 = .ok (.invokevirtual 199, 3) := by decide +kernel
theorem dX11_talk_34 : decode cX11_talk 34 = .ok (.aload_n 0, 1) := by decide +kernel
theorem dX11_talk_35 : decode cX11_talk 35 = .ok (.getfield 139, 3) := by decide +kernel
theorem dX11_talk_38 : decode cX11_talk 38 = .ok (.ifCond .ne 17, 3) := by decide +kernel
theorem dX11_talk_41 : decode cX11_talk 41 = .ok (.aload_n 0, 1) := by decide +kernel
theorem dX11_talk_42 : decode cX11_talk 42 = .ok (.invokevirtual 142, 3) := by decide +kernel
theorem dX11_talk_45 : decode cX11_talk 45 = .ok (.ifCond .lt 10, 3) := by decide +kernel
theorem dX11_talk_48 : decode cX11_talk 48 = .ok (.aload_n 0, 1) := by decide +kernel
theorem dX11_talk_49 : decode cX11_talk 49 = .ok (.invokevirtual 199, 3) := by decide +kernel
theorem dX11_talk_52 : decode cX11_talk 52 = .ok (.goto (-18), 3) := by decide +kernel
theorem dX11_talk_55 : decode cX11_talk 55 = .ok (.aload_n 0, 1) := by decide +kernel
theorem dX11_talk_56 : decode cX11_talk 56 = .ok (.invokevirtual 142, 3) := by decide +kernel
theorem dX11_talk_59 : decode cX11_talk 59 = .ok (.istore_n 1, 1) := by decide +kernel
theorem dX11_talk_60 : decode cX11_talk 60 = .ok (.iload_n 1, 1) := by decide +kernel
theorem dX11_talk_61 : decode cX11_talk 61 = .ok (.ifCond .ge 10, 3) := by decide +kernel
theorem dX11_talk_64 : decode cX11_talk 64 = .ok (.aload_n 0, 1) := by decide +kernel
theorem dX11_talk_65 : decode cX11_talk 65 = .ok (.getfield 132, 3) := by decide +kernel
theorem dX11_talk_68 : decode cX11_talk 68 = .ok (.goto 7, 3) := by decide +kernel
theorem dX11_talk_71 : decode cX11_talk 71 = .ok (.aload_n 0, 1) := by decide +kernel
theorem dX11_talk_72 : decode cX11_talk 72 = .ok (.getfield 136, 3) := by decide +kernel
theorem dX11_talk_75 : decode cX11_talk 75 = .ok (.istore_n 2, 1) := by decide +kernel
theorem dX11_talk_76 : decode cX11_talk 76 = .ok (.aload_n 0, 1) := by decide +kernel
theorem dX11_talk_77 : decode cX11_talk 77 = .ok (.iconst 0, 1) := by decide +kernel
theorem dX11_talk_78 : decode cX11_talk 78 = .ok (.putfield 132, 3) := by decide +kernel
theorem dX11_talk_81 : decode cX11_talk 81 = .ok (.aload_n 0, 1) := by decide +kernel
theorem dX11_talk_82 : decode cX11_talk 82 = .ok (.aload_n 0, 1) := by decide +kernel
theorem dX11_talk_83 : decode cX11_talk 83 = .ok (.getfield 139, 3) := by decide +kernel
theorem dX11_talk_86 : decode cX11_talk 86 = .ok (.putfield 202, 3) := by decide +kernel
theorem dX11_talk_89 : decode cX11_talk 89 = .ok (.aload_n 0, 1) := by decide +kernel
theorem dX11_talk_90 : decode cX11_talk 90 = .ok (.getfield 139, 3) := by decide +kernel
theorem dX11_talk_93 : decode cX11_talk 93 = .ok (.ifCond .le 8, 3) := by decide +kernel
theorem dX11_talk_96 : decode cX11_talk 96 = .ok (.bipush (-100), 2) := by decide +kernel
theorem dX11_talk_98 : decode cX11_talk 98 = .ok (.iload_n 2, 1) := by decide +kernel
theorem dX11_talk_99 : decode cX11_talk 99 = .ok (.isub, 1) := by decide +kernel
theorem dX11_talk_100 : decode cX11_talk 100 = .ok (.ireturn, 1) := by decide +kernel
theorem dX11_talk_101 : decode cX11_talk 101 = .ok (.aload_n 0, 1) := by decide +kernel
theorem dX11_talk_102 : decode cX11_talk 102 = .ok (.invokevirtual 205, 3) := by decide +kernel
theorem dX11_talk_105 : decode cX11_talk 105 = .ok (.aload_n 0, 1) := by decide +kernel
theorem dX11_talk_106 : decode cX11_talk 106 = .ok (.iconst 0, 1) := by decide +kernel
theorem dX11_talk_107 : decode cX11_talk 107 = .ok (.putfield 115, 3) := by decide +kernel
theorem dX11_talk_110 : decode cX11_talk 110 = .ok (.aload_n 0, 1) := by decide +kernel
theorem dX11_talk_111 : decode cX11_talk 111 = .ok (.iconst 0, 1) := by decide +kernel
theorem dX11_talk_112 : decode cX11_talk 112 = .ok (.putfield 126, 3) := by decide +kernel
theorem dX11_talk_115 : decode cX11_talk 115 = .ok (.aload_n 0, 1) := by decide +kernel
theorem dX11_talk_116 : decode cX11_talk 116 = .ok (.iconst 0, 1) := by decide +kernel
theorem dX11_talk_117 : decode cX11_talk 117 = .ok (.putfield 208, 3) := by decide +kernel
theorem dX11_talk_120 : decode cX11_talk 120 = .ok (.aload_n 0, 1) := by decide +kernel
theorem dX11_talk_121 : decode cX11_talk 121 = .ok (.getfield 85, 3) := by decide +kernel
theorem dX11_talk_124 : decode cX11_talk 124 = .ok (.ireturn, 1) := by decide +kernel
theorem dX11_fault_0 : decode cX11_fault 0 = .ok (.aload_n 0, 1) := by decide +kernel
theorem dX11_fault_1 : decode cX11_fault 1 = .ok (.getfield 202, 3) := by decide +kernel
theorem dX11_fault_4 : decode cX11_fault 4 = .ok (.ireturn, 1) := by decide +kernel
theorem dX11_begin_0 : decode cX11_begin 0 = .ok (.aload_n 0, 1) := by decide +kernel
theorem dX11_begin_1 : decode cX11_begin 1 = .ok (.invokevirtual 211, 3) := by decide +kernel
theorem dX11_begin_4 : decode cX11_begin 4 = .ok (.ifCond .ne 6, 3) := by decide +kernel
theorem dX11_begin_7 : decode cX11_begin 7 = .ok (.ldc 214, 2) := by decide +kernel
theorem dX11_begin_9 : decode cX11_begin 9 = .ok (.ireturn, 1) := by decide +kernel
theorem dX11_begin_10 : decode cX11_begin 10 = .ok (.iload_n 1, 1) := by decide +kernel
theorem dX11_begin_11 : decode cX11_begin 11 = .ok (.i2l, 1) := by decide +kernel
theorem dX11_begin_12 : decode cX11_begin 12 = .ok (.lconst 0, 1) := by decide +kernel
theorem dX11_begin_13 : decode cX11_begin 13 = .ok (.ldc2_w 215, 3) := by decide +kernel
theorem dX11_begin_16 : decode cX11_begin 16 = .ok (.invokestatic 88, 3) := by decide +kernel
theorem dX11_begin_19 : decode cX11_begin 19 = .ok (.ifCond .ne 6, 3) := by decide +kernel
theorem dX11_begin_22 : decode cX11_begin 22 = .ok (.ldc 131, 2) := by decide +kernel
theorem dX11_begin_24 : decode cX11_begin 24 = .ok (.ireturn, 1) := by decide +kernel
theorem dX11_begin_25 : decode cX11_begin 25 = .ok (.aload_n 0, 1) := by decide +kernel
theorem dX11_begin_26 : decode cX11_begin 26 = .ok (.iload_n 1, 1) := by decide +kernel
theorem dX11_begin_27 : decode cX11_begin 27 = .ok (.putfield 115, 3) := by decide +kernel
theorem dX11_begin_30 : decode cX11_begin 30 = .ok (.aload_n 0, 1) := by decide +kernel
theorem dX11_begin_31 : decode cX11_begin 31 = .ok (.iconst 0, 1) := by decide +kernel
theorem dX11_begin_32 : decode cX11_begin 32 = .ok (.putfield 126, 3) := by decide +kernel
theorem dX11_begin_35 : decode cX11_begin 35 = .ok (.aload_n 0, 1) := by decide +kernel
theorem dX11_begin_36 : decode cX11_begin 36 = .ok (.getfield 112, 3) := by decide +kernel
theorem dX11_begin_39 : decode cX11_begin 39 = .ok (.ireturn, 1) := by decide +kernel
theorem dX11_take_0 : decode cX11_take 0 = .ok (.aload_n 0, 1) := by decide +kernel
theorem dX11_take_1 : decode cX11_take 1 = .ok (.iload_n 1, 1) := by decide +kernel
theorem dX11_take_2 : decode cX11_take 2 = .ok (.invokevirtual 217, 3) := by decide +kernel
theorem dX11_take_5 : decode cX11_take 5 = .ok (.ifCond .ne 6, 3) := by decide +kernel
theorem dX11_take_8 : decode cX11_take 8 = .ok (.ldc 214, 2) := by decide +kernel
theorem dX11_take_10 : decode cX11_take 10 = .ok (.ireturn, 1) := by decide +kernel
theorem dX11_take_11 : decode cX11_take 11 = .ok (.aload_n 0, 1) := by decide +kernel
theorem dX11_take_12 : decode cX11_take 12 = .ok (.iload_n 1, 1) := by decide +kernel
theorem dX11_take_13 : decode cX11_take 13 = .ok (.aload_n 0, 1) := by decide +kernel
theorem dX11_take_14 : decode cX11_take 14 = .ok (.invokevirtual 221, 3) := by decide +kernel
theorem dX11_take_17 : decode cX11_take 17 = .ok (.iconst (-1), 1) := by decide +kernel
theorem dX11_take_18 : decode cX11_take 18 = .ok (.invokevirtual 105, 3) := by decide +kernel
theorem dX11_take_21 : decode cX11_take 21 = .ok (.ifCond .ne 6, 3) := by decide +kernel
theorem dX11_take_24 : decode cX11_take 24 = .ok (.ldc 224, 2) := by decide +kernel
theorem dX11_take_26 : decode cX11_take 26 = .ok (.ireturn, 1) := by decide +kernel
theorem dX11_take_27 : decode cX11_take 27 = .ok (.aload_n 0, 1) := by decide +kernel
theorem dX11_take_28 : decode cX11_take 28 = .ok (.getfield 126, 3) := by decide +kernel
theorem dX11_take_31 : decode cX11_take 31 = .ok (.bipush 60, 2) := by decide +kernel
theorem dX11_take_33 : decode cX11_take 33 = .ok (.if_icmp .ne 6, 3) := by decide +kernel
theorem dX11_take_36 : decode cX11_take 36 = .ok (.ldc 135, 2) := by decide +kernel
theorem dX11_take_38 : decode cX11_take 38 = .ok (.ireturn, 1) := by decide +kernel
theorem dX11_take_39 : decode cX11_take 39 = .ok (.aload_n 0, 1) := by decide +kernel
theorem dX11_take_40 : decode cX11_take 40 = .ok (.getfield 38, 3) := by decide +kernel
theorem dX11_take_43 : decode cX11_take 43 = .ok (.aload_n 0, 1) := by decide +kernel
theorem dX11_take_44 : decode cX11_take 44 = .ok (.getfield 126, 3) := by decide +kernel
theorem dX11_take_47 : decode cX11_take 47 = .ok (.iload_n 1, 1) := by decide +kernel
theorem dX11_take_48 : decode cX11_take 48 = .ok (.iastore, 1) := by decide +kernel
theorem dX11_take_49 : decode cX11_take 49 = .ok (.aload_n 0, 1) := by decide +kernel
theorem dX11_take_50 : decode cX11_take 50 = .ok (.dup, 1) := by decide +kernel
theorem dX11_take_51 : decode cX11_take 51 = .ok (.getfield 126, 3) := by decide +kernel
theorem dX11_take_54 : decode cX11_take 54 = .ok (.iconst 1, 1) := by decide +kernel
theorem dX11_take_55 : decode cX11_take 55 = .ok (.iadd, 1) := by decide +kernel
theorem dX11_take_56 : decode cX11_take 56 = .ok (.putfield 126, 3) := by decide +kernel
theorem dX11_take_59 : decode cX11_take 59 = .ok (.aload_n 0, 1) := by decide +kernel
theorem dX11_take_60 : decode cX11_take 60 = .ok (.getfield 13, 3) := by decide +kernel
theorem dX11_take_63 : decode cX11_take 63 = .ok (.iload_n 1, 1) := by decide +kernel
theorem dX11_take_64 : decode cX11_take 64 = .ok (.iaload, 1) := by decide +kernel
theorem dX11_take_65 : decode cX11_take 65 = .ok (.ireturn, 1) := by decide +kernel
theorem dX11_back_0 : decode cX11_back 0 = .ok (.aload_n 0, 1) := by decide +kernel
theorem dX11_back_1 : decode cX11_back 1 = .ok (.invokevirtual 211, 3) := by decide +kernel
theorem dX11_back_4 : decode cX11_back 4 = .ok (.ifCond .ne 6, 3) := by decide +kernel
theorem dX11_back_7 : decode cX11_back 7 = .ok (.ldc 214, 2) := by decide +kernel
theorem dX11_back_9 : decode cX11_back 9 = .ok (.ireturn, 1) := by decide +kernel
theorem dX11_back_10 : decode cX11_back 10 = .ok (.iload_n 1, 1) := by decide +kernel
theorem dX11_back_11 : decode cX11_back 11 = .ok (.i2l, 1) := by decide +kernel
theorem dX11_back_12 : decode cX11_back 12 = .ok (.lconst 1, 1) := by decide +kernel
theorem dX11_back_13 : decode cX11_back 13 = .ok (.ldc2_w 225, 3) := by decide +kernel
theorem dX11_back_16 : decode cX11_back 16 = .ok (.invokestatic 88, 3) := by decide +kernel
theorem dX11_back_19 : decode cX11_back 19 = .ok (.ifCond .ne 6, 3) := by decide +kernel
theorem dX11_back_22 : decode cX11_back 22 = .ok (.ldc 131, 2) := by decide +kernel
theorem dX11_back_24 : decode cX11_back 24 = .ok (.ireturn, 1) := by decide +kernel
theorem dX11_back_25 : decode cX11_back 25 = .ok (.iload_n 1, 1) := by decide +kernel
theorem dX11_back_26 : decode cX11_back 26 = .ok (.aload_n 0, 1) := by decide +kernel
theorem dX11_back_27 : decode cX11_back 27 = .ok (.getfield 126, 3) := by decide +kernel
theorem dX11_back_30 : decode cX11_back 30 = .ok (.if_icmp .le 6, 3) := by decide +kernel
theorem dX11_back_33 : decode cX11_back 33 = .ok (.ldc 224, 2) := by decide +kernel
theorem dX11_back_35 : decode cX11_back 35 = .ok (.ireturn, 1) := by decide +kernel
theorem dX11_back_36 : decode cX11_back 36 = .ok (.aload_n 0, 1) := by decide +kernel
theorem dX11_back_37 : decode cX11_back 37 = .ok (.dup, 1) := by decide +kernel
theorem dX11_back_38 : decode cX11_back 38 = .ok (.getfield 126, 3) := by decide +kernel
theorem dX11_back_41 : decode cX11_back 41 = .ok (.iload_n 1, 1) := by decide +kernel
theorem dX11_back_42 : decode cX11_back 42 = .ok (.isub, 1) := by decide +kernel
theorem dX11_back_43 : decode cX11_back 43 = .ok (.putfield 126, 3) := by decide +kernel
theorem dX11_back_46 : decode cX11_back 46 = .ok (.aload_n 0, 1) := by decide +kernel
theorem dX11_back_47 : decode cX11_back 47 = .ok (.invokevirtual 221, 3) := by decide +kernel
theorem dX11_back_50 : decode cX11_back 50 = .ok (.bipush 64, 2) := by decide +kernel
theorem dX11_back_52 : decode cX11_back 52 = .ok (.idiv, 1) := by decide +kernel
theorem dX11_back_53 : decode cX11_back 53 = .ok (.ireturn, 1) := by decide +kernel
theorem dX11_notes_0 : decode cX11_notes 0 = .ok (.aload_n 0, 1) := by decide +kernel
theorem dX11_notes_1 : decode cX11_notes 1 = .ok (.getfield 208, 3) := by decide +kernel
theorem dX11_notes_4 : decode cX11_notes 4 = .ok (.bipush 12, 2) := by decide +kernel
theorem dX11_notes_6 : decode cX11_notes 6 = .ok (.if_icmp .ne 43, 3) := by decide +kernel
theorem dX11_notes_9 : decode cX11_notes 9 = .ok (.iconst 0, 1) := by decide +kernel
theorem dX11_notes_10 : decode cX11_notes 10 = .ok (.istore_n 1, 1) := by decide +kernel
theorem dX11_notes_11 : decode cX11_notes 11 = .ok (.iload_n 1, 1) := by decide +kernel
theorem dX11_notes_12 : decode cX11_notes 12 = .ok (.sipush 352, 3) := by decide +kernel
theorem dX11_notes_15 : decode cX11_notes 15 = .ok (.if_icmp .ge 24, 3) := by decide +kernel
theorem dX11_notes_18 : decode cX11_notes 18 = .ok (.aload_n 0, 1) := by decide +kernel
theorem dX11_notes_19 : decode cX11_notes 19 = .ok (.getfield 41, 3) := by decide +kernel
theorem dX11_notes_22 : decode cX11_notes 22 = .ok (.iload_n 1, 1) := by decide +kernel
theorem dX11_notes_23 : decode cX11_notes 23 = .ok (.aload_n 0, 1) := by decide +kernel
theorem dX11_notes_24 : decode cX11_notes 24 = .ok (.getfield 41, 3) := by decide +kernel
theorem dX11_notes_27 : decode cX11_notes 27 = .ok (.iload_n 1, 1) := by decide +kernel
theorem dX11_notes_28 : decode cX11_notes 28 = .ok (.bipush 32, 2) := by decide +kernel
theorem dX11_notes_30 : decode cX11_notes 30 = .ok (.iadd, 1) := by decide +kernel
theorem dX11_notes_31 : decode cX11_notes 31 = .ok (.iaload, 1) := by decide +kernel
theorem dX11_notes_32 : decode cX11_notes 32 = .ok (.iastore, 1) := by decide +kernel
theorem dX11_notes_33 : decode cX11_notes 33 = .ok (.iinc 1 1, 3) := by decide +kernel
theorem dX11_notes_36 : decode cX11_notes 36 = .ok (.goto (-25), 3) := by decide +kernel
theorem dX11_notes_39 : decode cX11_notes 39 = .ok (.aload_n 0, 1) := by decide +kernel
theorem dX11_notes_40 : decode cX11_notes 40 = .ok (.dup, 1) := by decide +kernel
theorem dX11_notes_41 : decode cX11_notes 41 = .ok (.getfield 208, 3) := by decide +kernel
theorem dX11_notes_44 : decode cX11_notes 44 = .ok (.iconst 1, 1) := by decide +kernel
theorem dX11_notes_45 : decode cX11_notes 45 = .ok (.isub, 1) := by decide +kernel
theorem dX11_notes_46 : decode cX11_notes 46 = .ok (.putfield 208, 3) := by decide +kernel
theorem dX11_notes_49 : decode cX11_notes 49 = .ok (.iconst 0, 1) := by decide +kernel
theorem dX11_notes_50 : decode cX11_notes 50 = .ok (.istore_n 1, 1) := by decide +kernel
theorem dX11_notes_51 : decode cX11_notes 51 = .ok (.iload_n 1, 1) := by decide +kernel
theorem dX11_notes_52 : decode cX11_notes 52 = .ok (.bipush 32, 2) := by decide +kernel
theorem dX11_notes_54 : decode cX11_notes 54 = .ok (.if_icmp .ge 45, 3) := by decide +kernel
theorem dX11_notes_57 : decode cX11_notes 57 = .ok (.aload_n 0, 1) := by decide +kernel
theorem dX11_notes_58 : decode cX11_notes 58 = .ok (.getfield 41, 3) := by decide +kernel
theorem dX11_notes_61 : decode cX11_notes 61 = .ok (.bipush 32, 2) := by decide +kernel
theorem dX11_notes_63 : decode cX11_notes 63 = .ok (.aload_n 0, 1) := by decide +kernel
theorem dX11_notes_64 : decode cX11_notes 64 = .ok (.getfield 208, 3) := by decide +kernel
theorem dX11_notes_67 : decode cX11_notes 67 = .ok (.imul, 1) := by decide +kernel
theorem dX11_notes_68 : decode cX11_notes 68 = .ok (.iload_n 1, 1) := by decide +kernel
theorem dX11_notes_69 : decode cX11_notes 69 = .ok (.iadd, 1) := by decide +kernel
theorem dX11_notes_70 : decode cX11_notes 70 = .ok (.aload_n 0, 1) := by decide +kernel
theorem dX11_notes_71 : decode cX11_notes 71 = .ok (.getfield 16, 3) := by decide +kernel
theorem dX11_notes_74 : decode cX11_notes 74 = .ok (.iload_n 1, 1) := by decide +kernel
theorem dX11_notes_75 : decode cX11_notes 75 = .ok (.iaload, 1) := by decide +kernel
theorem dX11_notes_76 : decode cX11_notes 76 = .ok (.aload_n 0, 1) := by decide +kernel
theorem dX11_notes_77 : decode cX11_notes 77 = .ok (.getfield 34, 3) := by decide +kernel
theorem dX11_notes_80 : decode cX11_notes 80 = .ok (.iload_n 1, 1) := by decide +kernel
theorem dX11_notes_81 : decode cX11_notes 81 = .ok (.baload, 1) := by decide +kernel
theorem dX11_notes_82 : decode cX11_notes 82 = .ok (.ifCond .eq 8, 3) := by decide +kernel
theorem dX11_notes_85 : decode cX11_notes 85 = .ok (.bipush 10, 2) := by decide +kernel
theorem dX11_notes_87 : decode cX11_notes 87 = .ok (.goto 4, 3) := by decide +kernel
theorem dX11_notes_90 : decode cX11_notes 90 = .ok (.iconst 0, 1) := by decide +kernel
theorem dX11_notes_91 : decode cX11_notes 91 = .ok (.iadd, 1) := by decide +kernel
theorem dX11_notes_92 : decode cX11_notes 92 = .ok (.iastore, 1) := by decide +kernel
theorem dX11_notes_93 : decode cX11_notes 93 = .ok (.iinc 1 1, 3) := by decide +kernel
theorem dX11_notes_96 : decode cX11_notes 96 = .ok (.goto (-45), 3) := by decide +kernel
theorem dX11_notes_99 : decode cX11_notes 99 = .ok (.aload_n 0, 1) := by decide +kernel
theorem dX11_notes_100 : decode cX11_notes 100 = .ok (.dup, 1) := by decide +kernel
theorem dX11_notes_101 : decode cX11_notes 101 = .ok (.getfield 208, 3) := by decide +kernel
theorem dX11_notes_104 : decode cX11_notes 104 = .ok (.iconst 1, 1) := by decide +kernel
theorem dX11_notes_105 : decode cX11_notes 105 = .ok (.iadd, 1) := by decide +kernel
theorem dX11_notes_106 : decode cX11_notes 106 = .ok (.putfield 208, 3) := by decide +kernel
theorem dX11_notes_109 : decode cX11_notes 109 = .ok (.return_, 1) := by decide +kernel
theorem dX11_cut_0 : decode cX11_cut 0 = .ok (.aload_n 0, 1) := by decide +kernel
theorem dX11_cut_1 : decode cX11_cut 1 = .ok (.iload_n 1, 1) := by decide +kernel
theorem dX11_cut_2 : decode cX11_cut 2 = .ok (.invokevirtual 217, 3) := by decide +kernel
theorem dX11_cut_5 : decode cX11_cut 5 = .ok (.ifCond .ne 6, 3) := by decide +kernel
theorem dX11_cut_8 : decode cX11_cut 8 = .ok (.ldc 214, 2) := by decide +kernel
theorem dX11_cut_10 : decode cX11_cut 10 = .ok (.ireturn, 1) := by decide +kernel
theorem dX11_cut_11 : decode cX11_cut 11 = .ok (.iload_n 2, 1) := by decide +kernel
theorem dX11_cut_12 : decode cX11_cut 12 = .ok (.i2l, 1) := by decide +kernel
theorem dX11_cut_13 : decode cX11_cut 13 = .ok (.lconst 0, 1) := by decide +kernel
theorem dX11_cut_14 : decode cX11_cut 14 = .ok (.lconst 1, 1) := by decide +kernel
theorem dX11_cut_15 : decode cX11_cut 15 = .ok (.invokestatic 88, 3) := by decide +kernel
theorem dX11_cut_18 : decode cX11_cut 18 = .ok (.ifCond .ne 6, 3) := by decide +kernel
theorem dX11_cut_21 : decode cX11_cut 21 = .ok (.ldc 131, 2) := by decide +kernel
theorem dX11_cut_23 : decode cX11_cut 23 = .ok (.ireturn, 1) := by decide +kernel
theorem dX11_cut_24 : decode cX11_cut 24 = .ok (.aload_n 0, 1) := by decide +kernel
theorem dX11_cut_25 : decode cX11_cut 25 = .ok (.getfield 34, 3) := by decide +kernel
theorem dX11_cut_28 : decode cX11_cut 28 = .ok (.iload_n 1, 1) := by decide +kernel
theorem dX11_cut_29 : decode cX11_cut 29 = .ok (.baload, 1) := by decide +kernel
theorem dX11_cut_30 : decode cX11_cut 30 = .ok (.iload_n 2, 1) := by decide +kernel
theorem dX11_cut_31 : decode cX11_cut 31 = .ok (.iconst 1, 1) := by decide +kernel
theorem dX11_cut_32 : decode cX11_cut 32 = .ok (.if_icmp .ne 7, 3) := by decide +kernel
theorem dX11_cut_35 : decode cX11_cut 35 = .ok (.iconst 1, 1) := by decide +kernel
theorem dX11_cut_36 : decode cX11_cut 36 = .ok (.goto 4, 3) := by decide +kernel
theorem dX11_cut_39 : decode cX11_cut 39 = .ok (.iconst 0, 1) := by decide +kernel
theorem dX11_cut_40 : decode cX11_cut 40 = .ok (.if_icmp .ne 6, 3) := by decide +kernel
theorem dX11_cut_43 : decode cX11_cut 43 = .ok (.ldc 224, 2) := by decide +kernel
theorem dX11_cut_45 : decode cX11_cut 45 = .ok (.ireturn, 1) := by decide +kernel
theorem dX11_cut_46 : decode cX11_cut 46 = .ok (.aload_n 0, 1) := by decide +kernel
theorem dX11_cut_47 : decode cX11_cut 47 = .ok (.invokevirtual 227, 3) := by decide +kernel
theorem dX11_cut_50 : decode cX11_cut 50 = .ok (.aload_n 0, 1) := by decide +kernel
theorem dX11_cut_51 : decode cX11_cut 51 = .ok (.getfield 34, 3) := by decide +kernel
theorem dX11_cut_54 : decode cX11_cut 54 = .ok (.iload_n 1, 1) := by decide +kernel
theorem dX11_cut_55 : decode cX11_cut 55 = .ok (.iload_n 2, 1) := by decide +kernel
theorem dX11_cut_56 : decode cX11_cut 56 = .ok (.iconst 1, 1) := by decide +kernel
theorem dX11_cut_57 : decode cX11_cut 57 = .ok (.if_icmp .ne 7, 3) := by decide +kernel
theorem dX11_cut_60 : decode cX11_cut 60 = .ok (.iconst 1, 1) := by decide +kernel
theorem dX11_cut_61 : decode cX11_cut 61 = .ok (.goto 4, 3) := by decide +kernel
theorem dX11_cut_64 : decode cX11_cut 64 = .ok (.iconst 0, 1) := by decide +kernel
theorem dX11_cut_65 : decode cX11_cut 65 = .ok (.bastore, 1) := by decide +kernel
theorem dX11_cut_66 : decode cX11_cut 66 = .ok (.iconst 0, 1) := by decide +kernel
theorem dX11_cut_67 : decode cX11_cut 67 = .ok (.istore_n 3, 1) := by decide +kernel
theorem dX11_cut_68 : decode cX11_cut 68 = .ok (.iconst 0, 1) := by decide +kernel
theorem dX11_cut_69 : decode cX11_cut 69 = .ok (.istore 4, 2) := by decide +kernel
theorem dX11_cut_71 : decode cX11_cut 71 = .ok (.iload 4, 2) := by decide +kernel
theorem dX11_cut_73 : decode cX11_cut 73 = .ok (.aload_n 0, 1) := by decide +kernel
theorem dX11_cut_74 : decode cX11_cut 74 = .ok (.getfield 85, 3) := by decide +kernel
theorem dX11_cut_77 : decode cX11_cut 77 = .ok (.if_icmp .ge 27, 3) := by decide +kernel
theorem dX11_cut_80 : decode cX11_cut 80 = .ok (.iload_n 3, 1) := by decide +kernel
theorem dX11_cut_81 : decode cX11_cut 81 = .ok (.aload_n 0, 1) := by decide +kernel
theorem dX11_cut_82 : decode cX11_cut 82 = .ok (.getfield 34, 3) := by decide +kernel
theorem dX11_cut_85 : decode cX11_cut 85 = .ok (.iload 4, 2) := by decide +kernel
theorem dX11_cut_87 : decode cX11_cut 87 = .ok (.baload, 1) := by decide +kernel
theorem dX11_cut_88 : decode cX11_cut 88 = .ok (.ifCond .eq 7, 3) := by decide +kernel
theorem dX11_cut_91 : decode cX11_cut 91 = .ok (.iconst 0, 1) := by decide +kernel
theorem dX11_cut_92 : decode cX11_cut 92 = .ok (.goto 4, 3) := by decide +kernel
theorem dX11_cut_95 : decode cX11_cut 95 = .ok (.iconst 1, 1) := by decide +kernel
theorem dX11_cut_96 : decode cX11_cut 96 = .ok (.iadd, 1) := by decide +kernel
theorem dX11_cut_97 : decode cX11_cut 97 = .ok (.istore_n 3, 1) := by decide +kernel
theorem dX11_cut_98 : decode cX11_cut 98 = .ok (.iinc 4 1, 3) := by decide +kernel
theorem dX11_cut_101 : decode cX11_cut 101 = .ok (.goto (-30), 3) := by decide +kernel
theorem dX11_cut_104 : decode cX11_cut 104 = .ok (.iload_n 3, 1) := by decide +kernel
theorem dX11_cut_105 : decode cX11_cut 105 = .ok (.ireturn, 1) := by decide +kernel
theorem dX11_cost_0 : decode cX11_cost 0 = .ok (.aload_n 0, 1) := by decide +kernel
theorem dX11_cost_1 : decode cX11_cost 1 = .ok (.iload_n 1, 1) := by decide +kernel
theorem dX11_cost_2 : decode cX11_cost 2 = .ok (.invokevirtual 217, 3) := by decide +kernel
theorem dX11_cost_5 : decode cX11_cost 5 = .ok (.ifCond .ne 6, 3) := by decide +kernel
theorem dX11_cost_8 : decode cX11_cost 8 = .ok (.ldc 214, 2) := by decide +kernel
theorem dX11_cost_10 : decode cX11_cost 10 = .ok (.ireturn, 1) := by decide +kernel
theorem dX11_cost_11 : decode cX11_cost 11 = .ok (.iload_n 2, 1) := by decide +kernel
theorem dX11_cost_12 : decode cX11_cost 12 = .ok (.i2l, 1) := by decide +kernel
theorem dX11_cost_13 : decode cX11_cost 13 = .ok (.lconst 0, 1) := by decide +kernel
theorem dX11_cost_14 : decode cX11_cost 14 = .ok (.ldc2_w 230, 3) := by decide +kernel
theorem dX11_cost_17 : decode cX11_cost 17 = .ok (.invokestatic 88, 3) := by decide +kernel
theorem dX11_cost_20 : decode cX11_cost 20 = .ok (.ifCond .ne 6, 3) := by decide +kernel
theorem dX11_cost_23 : decode cX11_cost 23 = .ok (.ldc 131, 2) := by decide +kernel
theorem dX11_cost_25 : decode cX11_cost 25 = .ok (.ireturn, 1) := by decide +kernel
theorem dX11_cost_26 : decode cX11_cost 26 = .ok (.aload_n 0, 1) := by decide +kernel
theorem dX11_cost_27 : decode cX11_cost 27 = .ok (.invokevirtual 227, 3) := by decide +kernel
theorem dX11_cost_30 : decode cX11_cost 30 = .ok (.aload_n 0, 1) := by decide +kernel
theorem dX11_cost_31 : decode cX11_cost 31 = .ok (.getfield 16, 3) := by decide +kernel
theorem dX11_cost_34 : decode cX11_cost 34 = .ok (.iload_n 1, 1) := by decide +kernel
theorem dX11_cost_35 : decode cX11_cost 35 = .ok (.iaload, 1) := by decide +kernel
theorem dX11_cost_36 : decode cX11_cost 36 = .ok (.istore_n 3, 1) := by decide +kernel
theorem dX11_cost_37 : decode cX11_cost 37 = .ok (.aload_n 0, 1) := by decide +kernel
theorem dX11_cost_38 : decode cX11_cost 38 = .ok (.getfield 16, 3) := by decide +kernel
theorem dX11_cost_41 : decode cX11_cost 41 = .ok (.iload_n 1, 1) := by decide +kernel
theorem dX11_cost_42 : decode cX11_cost 42 = .ok (.iload_n 2, 1) := by decide +kernel
theorem dX11_cost_43 : decode cX11_cost 43 = .ok (.iastore, 1) := by decide +kernel
theorem dX11_cost_44 : decode cX11_cost 44 = .ok (.iload_n 3, 1) := by decide +kernel
theorem dX11_cost_45 : decode cX11_cost 45 = .ok (.ireturn, 1) := by decide +kernel
theorem dX11_undo_0 : decode cX11_undo 0 = .ok (.aload_n 0, 1) := by decide +kernel
theorem dX11_undo_1 : decode cX11_undo 1 = .ok (.invokevirtual 211, 3) := by decide +kernel
theorem dX11_undo_4 : decode cX11_undo 4 = .ok (.ifCond .ne 6, 3) := by decide +kernel
theorem dX11_undo_7 : decode cX11_undo 7 = .ok (.ldc 214, 2) := by decide +kernel
theorem dX11_undo_9 : decode cX11_undo 9 = .ok (.ireturn, 1) := by decide +kernel
theorem dX11_undo_10 : decode cX11_undo 10 = .ok (.aload_n 0, 1) := by decide +kernel
theorem dX11_undo_11 : decode cX11_undo 11 = .ok (.getfield 208, 3) := by decide +kernel
theorem dX11_undo_14 : decode cX11_undo 14 = .ok (.ifCond .ne 6, 3) := by decide +kernel
theorem dX11_undo_17 : decode cX11_undo 17 = .ok (.ldc 224, 2) := by decide +kernel
theorem dX11_undo_19 : decode cX11_undo 19 = .ok (.ireturn, 1) := by decide +kernel
theorem dX11_undo_20 : decode cX11_undo 20 = .ok (.aload_n 0, 1) := by decide +kernel
theorem dX11_undo_21 : decode cX11_undo 21 = .ok (.dup, 1) := by decide +kernel
theorem dX11_undo_22 : decode cX11_undo 22 = .ok (.getfield 208, 3) := by decide +kernel
theorem dX11_undo_25 : decode cX11_undo 25 = .ok (.iconst 1, 1) := by decide +kernel
theorem dX11_undo_26 : decode cX11_undo 26 = .ok (.isub, 1) := by decide +kernel
theorem dX11_undo_27 : decode cX11_undo 27 = .ok (.putfield 208, 3) := by decide +kernel
theorem dX11_undo_30 : decode cX11_undo 30 = .ok (.iconst 0, 1) := by decide +kernel
theorem dX11_undo_31 : decode cX11_undo 31 = .ok (.istore_n 1, 1) := by decide +kernel
theorem dX11_undo_32 : decode cX11_undo 32 = .ok (.iload_n 1, 1) := by decide +kernel
theorem dX11_undo_33 : decode cX11_undo 33 = .ok (.bipush 32, 2) := by decide +kernel
theorem dX11_undo_35 : decode cX11_undo 35 = .ok (.if_icmp .ge 62, 3) := by decide +kernel
theorem dX11_undo_38 : decode cX11_undo 38 = .ok (.aload_n 0, 1) := by decide +kernel
theorem dX11_undo_39 : decode cX11_undo 39 = .ok (.getfield 16, 3) := by decide +kernel
theorem dX11_undo_42 : decode cX11_undo 42 = .ok (.iload_n 1, 1) := by decide +kernel
theorem dX11_undo_43 : decode cX11_undo 43 = .ok (.aload_n 0, 1) := by decide +kernel
theorem dX11_undo_44 : decode cX11_undo 44 = .ok (.getfield 41, 3) := by decide +kernel
theorem dX11_undo_47 : decode cX11_undo 47 = .ok (.bipush 32, 2) := by decide +kernel
theorem dX11_undo_49 : decode cX11_undo 49 = .ok (.aload_n 0, 1) := by decide +kernel
theorem dX11_undo_50 : decode cX11_undo 50 = .ok (.getfield 208, 3) := by decide +kernel
theorem dX11_undo_53 : decode cX11_undo 53 = .ok (.imul, 1) := by decide +kernel
theorem dX11_undo_54 : decode cX11_undo 54 = .ok (.iload_n 1, 1) := by decide +kernel
theorem dX11_undo_55 : decode cX11_undo 55 = .ok (.iadd, 1) := by decide +kernel
theorem dX11_undo_56 : decode cX11_undo 56 = .ok (.iaload, 1) := by decide +kernel
theorem dX11_undo_57 : decode cX11_undo 57 = .ok (.bipush 10, 2) := by decide +kernel
theorem dX11_undo_59 : decode cX11_undo 59 = .ok (.irem, 1) := by decide +kernel
theorem dX11_undo_60 : decode cX11_undo 60 = .ok (.iastore, 1) := by decide +kernel
theorem dX11_undo_61 : decode cX11_undo 61 = .ok (.aload_n 0, 1) := by decide +kernel
theorem dX11_undo_62 : decode cX11_undo 62 = .ok (.getfield 34, 3) := by decide +kernel
theorem dX11_undo_65 : decode cX11_undo 65 = .ok (.iload_n 1, 1) := by decide +kernel
theorem dX11_undo_66 : decode cX11_undo 66 = .ok (.aload_n 0, 1) := by decide +kernel
theorem dX11_undo_67 : decode cX11_undo 67 = .ok (.getfield 41, 3) := by decide +kernel
theorem dX11_undo_70 : decode cX11_undo 70 = .ok (.bipush 32, 2) := by decide +kernel
theorem dX11_undo_72 : decode cX11_undo 72 = .ok (.aload_n 0, 1) := by decide +kernel
theorem dX11_undo_73 : decode cX11_undo 73 = .ok (.getfield 208, 3) := by decide +kernel
theorem dX11_undo_76 : decode cX11_undo 76 = .ok (.imul, 1) := by decide +kernel
theorem dX11_undo_77 : decode cX11_undo 77 = .ok (.iload_n 1, 1) := by decide +kernel
theorem dX11_undo_78 : decode cX11_undo 78 = .ok (.iadd, 1) := by decide +kernel
theorem dX11_undo_79 : decode cX11_undo 79 = .ok (.iaload, 1) := by decide +kernel
theorem dX11_undo_80 : decode cX11_undo 80 = .ok (.bipush 10, 2) := by decide +kernel
theorem dX11_undo_82 : decode cX11_undo 82 = .ok (.if_icmp .lt 7, 3) := by decide +kernel
theorem dX11_undo_85 : decode cX11_undo 85 = .ok (.iconst 1, 1) := by decide +kernel
theorem dX11_undo_86 : decode cX11_undo 86 = .ok (.goto 4, 3) := by decide +kernel
theorem dX11_undo_89 : decode cX11_undo 89 = .ok (.iconst 0, 1) := by decide +kernel
theorem dX11_undo_90 : decode cX11_undo 90 = .ok (.bastore, 1) := by decide +kernel
theorem dX11_undo_91 : decode cX11_undo 91 = .ok (.iinc 1 1, 3) := by decide +kernel
theorem dX11_undo_94 : decode cX11_undo 94 = .ok (.goto (-62), 3) := by decide +kernel
theorem dX11_undo_97 : decode cX11_undo 97 = .ok (.aload_n 0, 1) := by decide +kernel
theorem dX11_undo_98 : decode cX11_undo 98 = .ok (.getfield 208, 3) := by decide +kernel
theorem dX11_undo_101 : decode cX11_undo 101 = .ok (.ireturn, 1) := by decide +kernel
theorem dX11_isVain_0 : decode cX11_isVain 0 = .ok (.aload_n 0, 1) := by decide +kernel
theorem dX11_isVain_1 : decode cX11_isVain 1 = .ok (.getfield 19, 3) := by decide +kernel
theorem dX11_isVain_4 : decode cX11_isVain 4 = .ok (.iload_n 1, 1) := by decide +kernel
theorem dX11_isVain_5 : decode cX11_isVain 5 = .ok (.iaload, 1) := by decide +kernel
theorem dX11_isVain_6 : decode cX11_isVain 6 = .ok (.ifCond .le 7, 3) := by decide +kernel
theorem dX11_isVain_9 : decode cX11_isVain 9 = .ok (.iconst 1, 1) := by decide +kernel
theorem dX11_isVain_10 : decode cX11_isVain 10 = .ok (.goto 4, 3) := by decide +kernel
theorem dX11_isVain_13 : decode cX11_isVain 13 = .ok (.iconst 0, 1) := by decide +kernel
theorem dX11_isVain_14 : decode cX11_isVain 14 = .ok (.istore_n 2, 1) := by decide +kernel
theorem dX11_isVain_15 : decode cX11_isVain 15 = .ok (.iconst 0, 1) := by decide +kernel
theorem dX11_isVain_16 : decode cX11_isVain 16 = .ok (.istore_n 3, 1) := by decide +kernel
theorem dX11_isVain_17 : decode cX11_isVain 17 = .ok (.iload_n 3, 1) := by decide +kernel
theorem dX11_isVain_18 : decode cX11_isVain 18 = .ok (.aload_n 0, 1) := by decide +kernel
theorem dX11_isVain_19 : decode cX11_isVain 19 = .ok (.getfield 19, 3) := by decide +kernel
theorem dX11_isVain_22 : decode cX11_isVain 22 = .ok (.iload_n 1, 1) := by decide +kernel
theorem dX11_isVain_23 : decode cX11_isVain 23 = .ok (.iaload, 1) := by decide +kernel
theorem dX11_isVain_24 : decode cX11_isVain 24 = .ok (.if_icmp .ge 43, 3) := by decide +kernel
theorem dX11_isVain_27 : decode cX11_isVain 27 = .ok (.iload_n 2, 1) := by decide +kernel
theorem dX11_isVain_28 : decode cX11_isVain 28 = .ok (.ifCond .eq 31, 3) := by decide +kernel
theorem dX11_isVain_31 : decode cX11_isVain 31 = .ok (.aload_n 0, 1) := by decide +kernel
theorem dX11_isVain_32 : decode cX11_isVain 32 = .ok (.getfield 22, 3) := by decide +kernel
theorem dX11_isVain_35 : decode cX11_isVain 35 = .ok (.iconst 3, 1) := by decide +kernel
theorem dX11_isVain_36 : decode cX11_isVain 36 = .ok (.iload_n 1, 1) := by decide +kernel
theorem dX11_isVain_37 : decode cX11_isVain 37 = .ok (.imul, 1) := by decide +kernel
theorem dX11_isVain_38 : decode cX11_isVain 38 = .ok (.iload_n 3, 1) := by decide +kernel
theorem dX11_isVain_39 : decode cX11_isVain 39 = .ok (.iadd, 1) := by decide +kernel
theorem dX11_isVain_40 : decode cX11_isVain 40 = .ok (.iaload, 1) := by decide +kernel
theorem dX11_isVain_41 : decode cX11_isVain 41 = .ok (.aload_n 0, 1) := by decide +kernel
theorem dX11_isVain_42 : decode cX11_isVain 42 = .ok (.getfield 25, 3) := by decide +kernel
theorem dX11_isVain_45 : decode cX11_isVain 45 = .ok (.iconst 3, 1) := by decide +kernel
theorem dX11_isVain_46 : decode cX11_isVain 46 = .ok (.iload_n 1, 1) := by decide +kernel
theorem dX11_isVain_47 : decode cX11_isVain 47 = .ok (.imul, 1) := by decide +kernel
theorem dX11_isVain_48 : decode cX11_isVain 48 = .ok (.iload_n 3, 1) := by decide +kernel
theorem dX11_isVain_49 : decode cX11_isVain 49 = .ok (.iadd, 1) := by decide +kernel
theorem dX11_isVain_50 : decode cX11_isVain 50 = .ok (.iaload, 1) := by decide +kernel
theorem dX11_isVain_51 : decode cX11_isVain 51 = .ok (.iand, 1) := by decide +kernel
theorem dX11_isVain_52 : decode cX11_isVain 52 = .ok (.ifCond .eq 7, 3) := by decide +kernel
theorem dX11_isVain_55 : decode cX11_isVain 55 = .ok (.iconst 1, 1) := by decide +kernel
theorem dX11_isVain_56 : decode cX11_isVain 56 = .ok (.goto 4, 3) := by decide +kernel
theorem dX11_isVain_59 : decode cX11_isVain 59 = .ok (.iconst 0, 1) := by decide +kernel
theorem dX11_isVain_60 : decode cX11_isVain 60 = .ok (.istore_n 2, 1) := by decide +kernel
theorem dX11_isVain_61 : decode cX11_isVain 61 = .ok (.iinc 3 1, 3) := by decide +kernel
theorem dX11_isVain_64 : decode cX11_isVain 64 = .ok (.goto (-47), 3) := by decide +kernel
theorem dX11_isVain_67 : decode cX11_isVain 67 = .ok (.iload_n 2, 1) := by decide +kernel
theorem dX11_isVain_68 : decode cX11_isVain 68 = .ok (.ireturn, 1) := by decide +kernel
theorem dX11_answer_0 : decode cX11_answer 0 = .ok (.aload_n 0, 1) := by decide +kernel
theorem dX11_answer_1 : decode cX11_answer 1 = .ok (.iload_n 1, 1) := by decide +kernel
theorem dX11_answer_2 : decode cX11_answer 2 = .ok (.invokevirtual 217, 3) := by decide +kernel
theorem dX11_answer_5 : decode cX11_answer 5 = .ok (.ifCond .ne 6, 3) := by decide +kernel
theorem dX11_answer_8 : decode cX11_answer 8 = .ok (.ldc 214, 2) := by decide +kernel
theorem dX11_answer_10 : decode cX11_answer 10 = .ok (.ireturn, 1) := by decide +kernel
theorem dX11_answer_11 : decode cX11_answer 11 = .ok (.iload_n 2, 1) := by decide +kernel
theorem dX11_answer_12 : decode cX11_answer 12 = .ok (.tableswitch 142 0 8 #[52, 59, 66, 73, 80, 87, 94, 109, 128], 52) := by decide +kernel
theorem dX11_answer_64 : decode cX11_answer 64 = .ok (.aload_n 0, 1) := by decide +kernel
theorem dX11_answer_65 : decode cX11_answer 65 = .ok (.getfield 7, 3) := by decide +kernel
theorem dX11_answer_68 : decode cX11_answer 68 = .ok (.iload_n 1, 1) := by decide +kernel
theorem dX11_answer_69 : decode cX11_answer 69 = .ok (.iaload, 1) := by decide +kernel
theorem dX11_answer_70 : decode cX11_answer 70 = .ok (.ireturn, 1) := by decide +kernel
theorem dX11_answer_71 : decode cX11_answer 71 = .ok (.aload_n 0, 1) := by decide +kernel
theorem dX11_answer_72 : decode cX11_answer 72 = .ok (.getfield 13, 3) := by decide +kernel
theorem dX11_answer_75 : decode cX11_answer 75 = .ok (.iload_n 1, 1) := by decide +kernel
theorem dX11_answer_76 : decode cX11_answer 76 = .ok (.iaload, 1) := by decide +kernel
theorem dX11_answer_77 : decode cX11_answer 77 = .ok (.ireturn, 1) := by decide +kernel
theorem dX11_answer_78 : decode cX11_answer 78 = .ok (.aload_n 0, 1) := by decide +kernel
theorem dX11_answer_79 : decode cX11_answer 79 = .ok (.getfield 16, 3) := by decide +kernel
theorem dX11_answer_82 : decode cX11_answer 82 = .ok (.iload_n 1, 1) := by decide +kernel
theorem dX11_answer_83 : decode cX11_answer 83 = .ok (.iaload, 1) := by decide +kernel
theorem dX11_answer_84 : decode cX11_answer 84 = .ok (.ireturn, 1) := by decide +kernel
theorem dX11_answer_85 : decode cX11_answer 85 = .ok (.aload_n 0, 1) := by decide +kernel
theorem dX11_answer_86 : decode cX11_answer 86 = .ok (.getfield 19, 3) := by decide +kernel
theorem dX11_answer_89 : decode cX11_answer 89 = .ok (.iload_n 1, 1) := by decide +kernel
theorem dX11_answer_90 : decode cX11_answer 90 = .ok (.iaload, 1) := by decide +kernel
theorem dX11_answer_91 : decode cX11_answer 91 = .ok (.ireturn, 1) := by decide +kernel
theorem dX11_answer_92 : decode cX11_answer 92 = .ok (.aload_n 0, 1) := by decide +kernel
theorem dX11_answer_93 : decode cX11_answer 93 = .ok (.getfield 28, 3) := by decide +kernel
theorem dX11_answer_96 : decode cX11_answer 96 = .ok (.iload_n 1, 1) := by decide +kernel
theorem dX11_answer_97 : decode cX11_answer 97 = .ok (.iaload, 1) := by decide +kernel
theorem dX11_answer_98 : decode cX11_answer 98 = .ok (.ireturn, 1) := by decide +kernel
theorem dX11_answer_99 : decode cX11_answer 99 = .ok (.aload_n 0, 1) := by decide +kernel
theorem dX11_answer_100 : decode cX11_answer 100 = .ok (.getfield 31, 3) := by decide +kernel
theorem dX11_answer_103 : decode cX11_answer 103 = .ok (.iload_n 1, 1) := by decide +kernel
theorem dX11_answer_104 : decode cX11_answer 104 = .ok (.iaload, 1) := by decide +kernel
theorem dX11_answer_105 : decode cX11_answer 105 = .ok (.ireturn, 1) := by decide +kernel
theorem dX11_answer_106 : decode cX11_answer 106 = .ok (.aload_n 0, 1) := by decide +kernel
theorem dX11_answer_107 : decode cX11_answer 107 = .ok (.getfield 34, 3) := by decide +kernel
theorem dX11_answer_110 : decode cX11_answer 110 = .ok (.iload_n 1, 1) := by decide +kernel
theorem dX11_answer_111 : decode cX11_answer 111 = .ok (.baload, 1) := by decide +kernel
theorem dX11_answer_112 : decode cX11_answer 112 = .ok (.ifCond .eq 7, 3) := by decide +kernel
theorem dX11_answer_115 : decode cX11_answer 115 = .ok (.iconst 1, 1) := by decide +kernel
theorem dX11_answer_116 : decode cX11_answer 116 = .ok (.goto 4, 3) := by decide +kernel
theorem dX11_answer_119 : decode cX11_answer 119 = .ok (.iconst 0, 1) := by decide +kernel
theorem dX11_answer_120 : decode cX11_answer 120 = .ok (.ireturn, 1) := by decide +kernel
theorem dX11_answer_121 : decode cX11_answer 121 = .ok (.aload_n 0, 1) := by decide +kernel
theorem dX11_answer_122 : decode cX11_answer 122 = .ok (.iload_n 1, 1) := by decide +kernel
theorem dX11_answer_123 : decode cX11_answer 123 = .ok (.aload_n 0, 1) := by decide +kernel
theorem dX11_answer_124 : decode cX11_answer 124 = .ok (.invokevirtual 221, 3) := by decide +kernel
theorem dX11_answer_127 : decode cX11_answer 127 = .ok (.iconst (-1), 1) := by decide +kernel
theorem dX11_answer_128 : decode cX11_answer 128 = .ok (.invokevirtual 105, 3) := by decide +kernel
theorem dX11_answer_131 : decode cX11_answer 131 = .ok (.ifCond .eq 7, 3) := by decide +kernel
theorem dX11_answer_134 : decode cX11_answer 134 = .ok (.iconst 1, 1) := by decide +kernel
theorem dX11_answer_135 : decode cX11_answer 135 = .ok (.goto 4, 3) := by decide +kernel
theorem dX11_answer_138 : decode cX11_answer 138 = .ok (.iconst 0, 1) := by decide +kernel
theorem dX11_answer_139 : decode cX11_answer 139 = .ok (.ireturn, 1) := by decide +kernel
theorem dX11_answer_140 : decode cX11_answer 140 = .ok (.aload_n 0, 1) := by decide +kernel
theorem dX11_answer_141 : decode cX11_answer 141 = .ok (.iload_n 1, 1) := by decide +kernel
theorem dX11_answer_142 : decode cX11_answer 142 = .ok (.invokevirtual 232, 3) := by decide +kernel
theorem dX11_answer_145 : decode cX11_answer 145 = .ok (.ifCond .eq 7, 3) := by decide +kernel
theorem dX11_answer_148 : decode cX11_answer 148 = .ok (.iconst 1, 1) := by decide +kernel
theorem dX11_answer_149 : decode cX11_answer 149 = .ok (.goto 4, 3) := by decide +kernel
theorem dX11_answer_152 : decode cX11_answer 152 = .ok (.iconst 0, 1) := by decide +kernel
theorem dX11_answer_153 : decode cX11_answer 153 = .ok (.ireturn, 1) := by decide +kernel
theorem dX11_answer_154 : decode cX11_answer 154 = .ok (.iload_n 2, 1) := by decide +kernel
theorem dX11_answer_155 : decode cX11_answer 155 = .ok (.i2l, 1) := by decide +kernel
theorem dX11_answer_156 : decode cX11_answer 156 = .ok (.ldc2_w 235, 3) := by decide +kernel
theorem dX11_answer_159 : decode cX11_answer 159 = .ok (.bipush 9, 2) := by decide +kernel
theorem dX11_answer_161 : decode cX11_answer 161 = .ok (.iconst 2, 1) := by decide +kernel
theorem dX11_answer_162 : decode cX11_answer 162 = .ok (.aload_n 0, 1) := by decide +kernel
theorem dX11_answer_163 : decode cX11_answer 163 = .ok (.getfield 19, 3) := by decide +kernel
theorem dX11_answer_166 : decode cX11_answer 166 = .ok (.iload_n 1, 1) := by decide +kernel
theorem dX11_answer_167 : decode cX11_answer 167 = .ok (.iaload, 1) := by decide +kernel
theorem dX11_answer_168 : decode cX11_answer 168 = .ok (.imul, 1) := by decide +kernel
theorem dX11_answer_169 : decode cX11_answer 169 = .ok (.iadd, 1) := by decide +kernel
theorem dX11_answer_170 : decode cX11_answer 170 = .ok (.i2l, 1) := by decide +kernel
theorem dX11_answer_171 : decode cX11_answer 171 = .ok (.invokestatic 88, 3) := by decide +kernel
theorem dX11_answer_174 : decode cX11_answer 174 = .ok (.ifCond .ne 6, 3) := by decide +kernel
theorem dX11_answer_177 : decode cX11_answer 177 = .ok (.ldc 131, 2) := by decide +kernel
theorem dX11_answer_179 : decode cX11_answer 179 = .ok (.ireturn, 1) := by decide +kernel
theorem dX11_answer_180 : decode cX11_answer 180 = .ok (.iconst 3, 1) := by decide +kernel
theorem dX11_answer_181 : decode cX11_answer 181 = .ok (.iload_n 1, 1) := by decide +kernel
theorem dX11_answer_182 : decode cX11_answer 182 = .ok (.imul, 1) := by decide +kernel
theorem dX11_answer_183 : decode cX11_answer 183 = .ok (.iload_n 2, 1) := by decide +kernel
theorem dX11_answer_184 : decode cX11_answer 184 = .ok (.bipush 10, 2) := by decide +kernel
theorem dX11_answer_186 : decode cX11_answer 186 = .ok (.isub, 1) := by decide +kernel
theorem dX11_answer_187 : decode cX11_answer 187 = .ok (.iconst 2, 1) := by decide +kernel
theorem dX11_answer_188 : decode cX11_answer 188 = .ok (.idiv, 1) := by decide +kernel
theorem dX11_answer_189 : decode cX11_answer 189 = .ok (.iadd, 1) := by decide +kernel
theorem dX11_answer_190 : decode cX11_answer 190 = .ok (.istore_n 3, 1) := by decide +kernel
theorem dX11_answer_191 : decode cX11_answer 191 = .ok (.iload_n 2, 1) := by decide +kernel
theorem dX11_answer_192 : decode cX11_answer 192 = .ok (.iconst 2, 1) := by decide +kernel
theorem dX11_answer_193 : decode cX11_answer 193 = .ok (.irem, 1) := by decide +kernel
theorem dX11_answer_194 : decode cX11_answer 194 = .ok (.ifCond .ne 12, 3) := by decide +kernel
theorem dX11_answer_197 : decode cX11_answer 197 = .ok (.aload_n 0, 1) := by decide +kernel
theorem dX11_answer_198 : decode cX11_answer 198 = .ok (.getfield 22, 3) := by decide +kernel
theorem dX11_answer_201 : decode cX11_answer 201 = .ok (.iload_n 3, 1) := by decide +kernel
theorem dX11_answer_202 : decode cX11_answer 202 = .ok (.iaload, 1) := by decide +kernel
theorem dX11_answer_203 : decode cX11_answer 203 = .ok (.goto 9, 3) := by decide +kernel
theorem dX11_answer_206 : decode cX11_answer 206 = .ok (.aload_n 0, 1) := by decide +kernel
theorem dX11_answer_207 : decode cX11_answer 207 = .ok (.getfield 25, 3) := by decide +kernel
theorem dX11_answer_210 : decode cX11_answer 210 = .ok (.iload_n 3, 1) := by decide +kernel
theorem dX11_answer_211 : decode cX11_answer 211 = .ok (.iaload, 1) := by decide +kernel
theorem dX11_answer_212 : decode cX11_answer 212 = .ok (.ireturn, 1) := by decide +kernel
theorem dX11_openIn_0 : decode cX11_openIn 0 = .ok (.iconst 0, 1) := by decide +kernel
theorem dX11_openIn_1 : decode cX11_openIn 1 = .ok (.istore_n 2, 1) := by decide +kernel
theorem dX11_openIn_2 : decode cX11_openIn 2 = .ok (.iconst 0, 1) := by decide +kernel
theorem dX11_openIn_3 : decode cX11_openIn 3 = .ok (.istore_n 3, 1) := by decide +kernel
theorem dX11_openIn_4 : decode cX11_openIn 4 = .ok (.iload_n 3, 1) := by decide +kernel
theorem dX11_openIn_5 : decode cX11_openIn 5 = .ok (.aload_n 0, 1) := by decide +kernel
theorem dX11_openIn_6 : decode cX11_openIn 6 = .ok (.getfield 85, 3) := by decide +kernel
theorem dX11_openIn_9 : decode cX11_openIn 9 = .ok (.if_icmp .ge 27, 3) := by decide +kernel
theorem dX11_openIn_12 : decode cX11_openIn 12 = .ok (.iload_n 2, 1) := by decide +kernel
theorem dX11_openIn_13 : decode cX11_openIn 13 = .ok (.aload_n 0, 1) := by decide +kernel
theorem dX11_openIn_14 : decode cX11_openIn 14 = .ok (.iload_n 3, 1) := by decide +kernel
theorem dX11_openIn_15 : decode cX11_openIn 15 = .ok (.iload_n 1, 1) := by decide +kernel
theorem dX11_openIn_16 : decode cX11_openIn 16 = .ok (.iconst (-1), 1) := by decide +kernel
theorem dX11_openIn_17 : decode cX11_openIn 17 = .ok (.invokevirtual 105, 3) := by decide +kernel
theorem dX11_openIn_20 : decode cX11_openIn 20 = .ok (.ifCond .eq 7, 3) := by decide +kernel
theorem dX11_openIn_23 : decode cX11_openIn 23 = .ok (.iconst 1, 1) := by decide +kernel
theorem dX11_openIn_24 : decode cX11_openIn 24 = .ok (.goto 4, 3) := by decide +kernel
theorem dX11_openIn_27 : decode cX11_openIn 27 = .ok (.iconst 0, 1) := by decide +kernel
theorem dX11_openIn_28 : decode cX11_openIn 28 = .ok (.iadd, 1) := by decide +kernel
theorem dX11_openIn_29 : decode cX11_openIn 29 = .ok (.istore_n 2, 1) := by decide +kernel
theorem dX11_openIn_30 : decode cX11_openIn 30 = .ok (.iinc 3 1, 3) := by decide +kernel
theorem dX11_openIn_33 : decode cX11_openIn 33 = .ok (.goto (-29), 3) := by decide +kernel
theorem dX11_openIn_36 : decode cX11_openIn 36 = .ok (.iload_n 2, 1) := by decide +kernel
theorem dX11_openIn_37 : decode cX11_openIn 37 = .ok (.ireturn, 1) := by decide +kernel
theorem dX11_costOfSteps_0 : decode cX11_costOfSteps 0 = .ok (.iconst 0, 1) := by decide +kernel
theorem dX11_costOfSteps_1 : decode cX11_costOfSteps 1 = .ok (.istore_n 1, 1) := by decide +kernel
theorem dX11_costOfSteps_2 : decode cX11_costOfSteps 2 = .ok (.iconst 0, 1) := by decide +kernel
theorem dX11_costOfSteps_3 : decode cX11_costOfSteps 3 = .ok (.istore_n 2, 1) := by decide +kernel
theorem dX11_costOfSteps_4 : decode cX11_costOfSteps 4 = .ok (.iload_n 2, 1) := by decide +kernel
theorem dX11_costOfSteps_5 : decode cX11_costOfSteps 5 = .ok (.aload_n 0, 1) := by decide +kernel
theorem dX11_costOfSteps_6 : decode cX11_costOfSteps 6 = .ok (.getfield 126, 3) := by decide +kernel
theorem dX11_costOfSteps_9 : decode cX11_costOfSteps 9 = .ok (.if_icmp .ge 23, 3) := by decide +kernel
theorem dX11_costOfSteps_12 : decode cX11_costOfSteps 12 = .ok (.iload_n 1, 1) := by decide +kernel
theorem dX11_costOfSteps_13 : decode cX11_costOfSteps 13 = .ok (.aload_n 0, 1) := by decide +kernel
theorem dX11_costOfSteps_14 : decode cX11_costOfSteps 14 = .ok (.getfield 16, 3) := by decide +kernel
theorem dX11_costOfSteps_17 : decode cX11_costOfSteps 17 = .ok (.aload_n 0, 1) := by decide +kernel
theorem dX11_costOfSteps_18 : decode cX11_costOfSteps 18 = .ok (.getfield 38, 3) := by decide +kernel
theorem dX11_costOfSteps_21 : decode cX11_costOfSteps 21 = .ok (.iload_n 2, 1) := by decide +kernel
theorem dX11_costOfSteps_22 : decode cX11_costOfSteps 22 = .ok (.iaload, 1) := by decide +kernel
theorem dX11_costOfSteps_23 : decode cX11_costOfSteps 23 = .ok (.iaload, 1) := by decide +kernel
theorem dX11_costOfSteps_24 : decode cX11_costOfSteps 24 = .ok (.iadd, 1) := by decide +kernel
theorem dX11_costOfSteps_25 : decode cX11_costOfSteps 25 = .ok (.istore_n 1, 1) := by decide +kernel
theorem dX11_costOfSteps_26 : decode cX11_costOfSteps 26 = .ok (.iinc 2 1, 3) := by decide +kernel
theorem dX11_costOfSteps_29 : decode cX11_costOfSteps 29 = .ok (.goto (-25), 3) := by decide +kernel
theorem dX11_costOfSteps_32 : decode cX11_costOfSteps 32 = .ok (.iload_n 1, 1) := by decide +kernel
theorem dX11_costOfSteps_33 : decode cX11_costOfSteps 33 = .ok (.ireturn, 1) := by decide +kernel
theorem dX11_count_0 : decode cX11_count 0 = .ok (.iload_n 1, 1) := by decide +kernel
theorem dX11_count_1 : decode cX11_count 1 = .ok (.bipush 10, 2) := by decide +kernel
theorem dX11_count_3 : decode cX11_count 3 = .ok (.if_icmp .ne 8, 3) := by decide +kernel
theorem dX11_count_6 : decode cX11_count 6 = .ok (.aload_n 0, 1) := by decide +kernel
theorem dX11_count_7 : decode cX11_count 7 = .ok (.getfield 132, 3) := by decide +kernel
theorem dX11_count_10 : decode cX11_count 10 = .ok (.ireturn, 1) := by decide +kernel
theorem dX11_count_11 : decode cX11_count 11 = .ok (.aload_n 0, 1) := by decide +kernel
theorem dX11_count_12 : decode cX11_count 12 = .ok (.invokevirtual 211, 3) := by decide +kernel
theorem dX11_count_15 : decode cX11_count 15 = .ok (.ifCond .ne 6, 3) := by decide +kernel
theorem dX11_count_18 : decode cX11_count 18 = .ok (.ldc 214, 2) := by decide +kernel
theorem dX11_count_20 : decode cX11_count 20 = .ok (.ireturn, 1) := by decide +kernel
theorem dX11_count_21 : decode cX11_count 21 = .ok (.iload_n 1, 1) := by decide +kernel
theorem dX11_count_22 : decode cX11_count 22 = .ok (.tableswitch 114 0 9 #[54, 62, 70, 75, 84, 89, 94, 99, 104, 109], 54) := by decide +kernel
theorem dX11_count_76 : decode cX11_count 76 = .ok (.aload_n 0, 1) := by decide +kernel
theorem dX11_count_77 : decode cX11_count 77 = .ok (.invokevirtual 221, 3) := by decide +kernel
theorem dX11_count_80 : decode cX11_count 80 = .ok (.bipush 64, 2) := by decide +kernel
theorem dX11_count_82 : decode cX11_count 82 = .ok (.idiv, 1) := by decide +kernel
theorem dX11_count_83 : decode cX11_count 83 = .ok (.ireturn, 1) := by decide +kernel
theorem dX11_count_84 : decode cX11_count 84 = .ok (.aload_n 0, 1) := by decide +kernel
theorem dX11_count_85 : decode cX11_count 85 = .ok (.invokevirtual 221, 3) := by decide +kernel
theorem dX11_count_88 : decode cX11_count 88 = .ok (.bipush 64, 2) := by decide +kernel
theorem dX11_count_90 : decode cX11_count 90 = .ok (.irem, 1) := by decide +kernel
theorem dX11_count_91 : decode cX11_count 91 = .ok (.ireturn, 1) := by decide +kernel
theorem dX11_count_92 : decode cX11_count 92 = .ok (.aload_n 0, 1) := by decide +kernel
theorem dX11_count_93 : decode cX11_count 93 = .ok (.getfield 126, 3) := by decide +kernel
theorem dX11_count_96 : decode cX11_count 96 = .ok (.ireturn, 1) := by decide +kernel
theorem dX11_count_97 : decode cX11_count 97 = .ok (.aload_n 0, 1) := by decide +kernel
theorem dX11_count_98 : decode cX11_count 98 = .ok (.aload_n 0, 1) := by decide +kernel
theorem dX11_count_99 : decode cX11_count 99 = .ok (.invokevirtual 221, 3) := by decide +kernel
theorem dX11_count_102 : decode cX11_count 102 = .ok (.invokevirtual 237, 3) := by decide +kernel
theorem dX11_count_105 : decode cX11_count 105 = .ok (.ireturn, 1) := by decide +kernel
theorem dX11_count_106 : decode cX11_count 106 = .ok (.aload_n 0, 1) := by decide +kernel
theorem dX11_count_107 : decode cX11_count 107 = .ok (.invokevirtual 241, 3) := by decide +kernel
theorem dX11_count_110 : decode cX11_count 110 = .ok (.ireturn, 1) := by decide +kernel
theorem dX11_count_111 : decode cX11_count 111 = .ok (.aload_n 0, 1) := by decide +kernel
theorem dX11_count_112 : decode cX11_count 112 = .ok (.getfield 112, 3) := by decide +kernel
theorem dX11_count_115 : decode cX11_count 115 = .ok (.ireturn, 1) := by decide +kernel
theorem dX11_count_116 : decode cX11_count 116 = .ok (.aload_n 0, 1) := by decide +kernel
theorem dX11_count_117 : decode cX11_count 117 = .ok (.getfield 81, 3) := by decide +kernel
theorem dX11_count_120 : decode cX11_count 120 = .ok (.ireturn, 1) := by decide +kernel
theorem dX11_count_121 : decode cX11_count 121 = .ok (.aload_n 0, 1) := by decide +kernel
theorem dX11_count_122 : decode cX11_count 122 = .ok (.getfield 98, 3) := by decide +kernel
theorem dX11_count_125 : decode cX11_count 125 = .ok (.ireturn, 1) := by decide +kernel
theorem dX11_count_126 : decode cX11_count 126 = .ok (.aload_n 0, 1) := by decide +kernel
theorem dX11_count_127 : decode cX11_count 127 = .ok (.getfield 85, 3) := by decide +kernel
theorem dX11_count_130 : decode cX11_count 130 = .ok (.ireturn, 1) := by decide +kernel
theorem dX11_count_131 : decode cX11_count 131 = .ok (.aload_n 0, 1) := by decide +kernel
theorem dX11_count_132 : decode cX11_count 132 = .ok (.getfield 208, 3) := by decide +kernel
theorem dX11_count_135 : decode cX11_count 135 = .ok (.ireturn, 1) := by decide +kernel
theorem dX11_count_136 : decode cX11_count 136 = .ok (.ldc 131, 2) := by decide +kernel
theorem dX11_count_138 : decode cX11_count 138 = .ok (.ireturn, 1) := by decide +kernel
theorem dX11_step_0 : decode cX11_step 0 = .ok (.aload_n 0, 1) := by decide +kernel
theorem dX11_step_1 : decode cX11_step 1 = .ok (.invokevirtual 211, 3) := by decide +kernel
theorem dX11_step_4 : decode cX11_step 4 = .ok (.ifCond .ne 6, 3) := by decide +kernel
theorem dX11_step_7 : decode cX11_step 7 = .ok (.ldc 214, 2) := by decide +kernel
theorem dX11_step_9 : decode cX11_step 9 = .ok (.ireturn, 1) := by decide +kernel
theorem dX11_step_10 : decode cX11_step 10 = .ok (.iload_n 1, 1) := by decide +kernel
theorem dX11_step_11 : decode cX11_step 11 = .ok (.ifCond .ge 8, 3) := by decide +kernel
theorem dX11_step_14 : decode cX11_step 14 = .ok (.ldc 131, 2) := by decide +kernel
theorem dX11_step_16 : decode cX11_step 16 = .ok (.goto 21, 3) := by decide +kernel
theorem dX11_step_19 : decode cX11_step 19 = .ok (.iload_n 1, 1) := by decide +kernel
theorem dX11_step_20 : decode cX11_step 20 = .ok (.aload_n 0, 1) := by decide +kernel
theorem dX11_step_21 : decode cX11_step 21 = .ok (.getfield 126, 3) := by decide +kernel
theorem dX11_step_24 : decode cX11_step 24 = .ok (.if_icmp .ge 12, 3) := by decide +kernel
theorem dX11_step_27 : decode cX11_step 27 = .ok (.aload_n 0, 1) := by decide +kernel
theorem dX11_step_28 : decode cX11_step 28 = .ok (.getfield 38, 3) := by decide +kernel
theorem dX11_step_31 : decode cX11_step 31 = .ok (.iload_n 1, 1) := by decide +kernel
theorem dX11_step_32 : decode cX11_step 32 = .ok (.iaload, 1) := by decide +kernel
theorem dX11_step_33 : decode cX11_step 33 = .ok (.goto 4, 3) := by decide +kernel
theorem dX11_step_36 : decode cX11_step 36 = .ok (.iconst (-1), 1) := by decide +kernel
theorem dX11_step_37 : decode cX11_step 37 = .ok (.ireturn, 1) := by decide +kernel
theorem dX11_laysEnds_0 : decode cX11_laysEnds 0 = .ok (.iconst 0, 1) := by decide +kernel
theorem dX11_laysEnds_1 : decode cX11_laysEnds 1 = .ok (.istore_n 1, 1) := by decide +kernel
theorem dX11_laysEnds_2 : decode cX11_laysEnds 2 = .ok (.iload_n 1, 1) := by decide +kernel
theorem dX11_laysEnds_3 : decode cX11_laysEnds 3 = .ok (.sipush 1024, 3) := by decide +kernel
theorem dX11_laysEnds_6 : decode cX11_laysEnds 6 = .ok (.if_icmp .ge 43, 3) := by decide +kernel
theorem dX11_laysEnds_9 : decode cX11_laysEnds 9 = .ok (.aload_n 0, 1) := by decide +kernel
theorem dX11_laysEnds_10 : decode cX11_laysEnds 10 = .ok (.getfield 62, 3) := by decide +kernel
theorem dX11_laysEnds_13 : decode cX11_laysEnds 13 = .ok (.iload_n 1, 1) := by decide +kernel
theorem dX11_laysEnds_14 : decode cX11_laysEnds 14 = .ok (.aload_n 0, 1) := by decide +kernel
theorem dX11_laysEnds_15 : decode cX11_laysEnds 15 = .ok (.getfield 44, 3) := by decide +kernel
theorem dX11_laysEnds_18 : decode cX11_laysEnds 18 = .ok (.iload_n 1, 1) := by decide +kernel
theorem dX11_laysEnds_19 : decode cX11_laysEnds 19 = .ok (.iaload, 1) := by decide +kernel
theorem dX11_laysEnds_20 : decode cX11_laysEnds 20 = .ok (.ifCond .lt 21, 3) := by decide +kernel
theorem dX11_laysEnds_23 : decode cX11_laysEnds 23 = .ok (.aload_n 0, 1) := by decide +kernel
theorem dX11_laysEnds_24 : decode cX11_laysEnds 24 = .ok (.getfield 98, 3) := by decide +kernel
theorem dX11_laysEnds_27 : decode cX11_laysEnds 27 = .ok (.iload_n 1, 1) := by decide +kernel
theorem dX11_laysEnds_28 : decode cX11_laysEnds 28 = .ok (.bipush 64, 2) := by decide +kernel
theorem dX11_laysEnds_30 : decode cX11_laysEnds 30 = .ok (.idiv, 1) := by decide +kernel
theorem dX11_laysEnds_31 : decode cX11_laysEnds 31 = .ok (.invokestatic 94, 3) := by decide +kernel
theorem dX11_laysEnds_34 : decode cX11_laysEnds 34 = .ok (.ifCond .eq 7, 3) := by decide +kernel
theorem dX11_laysEnds_37 : decode cX11_laysEnds 37 = .ok (.iconst 1, 1) := by decide +kernel
theorem dX11_laysEnds_38 : decode cX11_laysEnds 38 = .ok (.goto 4, 3) := by decide +kernel
theorem dX11_laysEnds_41 : decode cX11_laysEnds 41 = .ok (.iconst 0, 1) := by decide +kernel
theorem dX11_laysEnds_42 : decode cX11_laysEnds 42 = .ok (.bastore, 1) := by decide +kernel
theorem dX11_laysEnds_43 : decode cX11_laysEnds 43 = .ok (.iinc 1 1, 3) := by decide +kernel
theorem dX11_laysEnds_46 : decode cX11_laysEnds 46 = .ok (.goto (-44), 3) := by decide +kernel
theorem dX11_laysEnds_49 : decode cX11_laysEnds 49 = .ok (.iconst 1, 1) := by decide +kernel
theorem dX11_laysEnds_50 : decode cX11_laysEnds 50 = .ok (.istore_n 1, 1) := by decide +kernel
theorem dX11_laysEnds_51 : decode cX11_laysEnds 51 = .ok (.iload_n 1, 1) := by decide +kernel
theorem dX11_laysEnds_52 : decode cX11_laysEnds 52 = .ok (.ifCond .eq 111, 3) := by decide +kernel
theorem dX11_laysEnds_55 : decode cX11_laysEnds 55 = .ok (.iconst 0, 1) := by decide +kernel
theorem dX11_laysEnds_56 : decode cX11_laysEnds 56 = .ok (.istore_n 1, 1) := by decide +kernel
theorem dX11_laysEnds_57 : decode cX11_laysEnds 57 = .ok (.iconst 0, 1) := by decide +kernel
theorem dX11_laysEnds_58 : decode cX11_laysEnds 58 = .ok (.istore_n 2, 1) := by decide +kernel
theorem dX11_laysEnds_59 : decode cX11_laysEnds 59 = .ok (.iload_n 2, 1) := by decide +kernel
theorem dX11_laysEnds_60 : decode cX11_laysEnds 60 = .ok (.sipush 1024, 3) := by decide +kernel
theorem dX11_laysEnds_63 : decode cX11_laysEnds 63 = .ok (.if_icmp .ge 97, 3) := by decide +kernel
theorem dX11_laysEnds_66 : decode cX11_laysEnds 66 = .ok (.iconst 0, 1) := by decide +kernel
theorem dX11_laysEnds_67 : decode cX11_laysEnds 67 = .ok (.istore_n 3, 1) := by decide +kernel
theorem dX11_laysEnds_68 : decode cX11_laysEnds 68 = .ok (.iload_n 3, 1) := by decide +kernel
theorem dX11_laysEnds_69 : decode cX11_laysEnds 69 = .ok (.aload_n 0, 1) := by decide +kernel
theorem dX11_laysEnds_70 : decode cX11_laysEnds 70 = .ok (.getfield 85, 3) := by decide +kernel
theorem dX11_laysEnds_73 : decode cX11_laysEnds 73 = .ok (.if_icmp .ge 81, 3) := by decide +kernel
theorem dX11_laysEnds_76 : decode cX11_laysEnds 76 = .ok (.aload_n 0, 1) := by decide +kernel
theorem dX11_laysEnds_77 : decode cX11_laysEnds 77 = .ok (.getfield 44, 3) := by decide +kernel
theorem dX11_laysEnds_80 : decode cX11_laysEnds 80 = .ok (.iload_n 2, 1) := by decide +kernel
theorem dX11_laysEnds_81 : decode cX11_laysEnds 81 = .ok (.iaload, 1) := by decide +kernel
theorem dX11_laysEnds_82 : decode cX11_laysEnds 82 = .ok (.ifCond .lt 72, 3) := by decide +kernel
theorem dX11_laysEnds_85 : decode cX11_laysEnds 85 = .ok (.aload_n 0, 1) := by decide +kernel
theorem dX11_laysEnds_86 : decode cX11_laysEnds 86 = .ok (.getfield 62, 3) := by decide +kernel
theorem dX11_laysEnds_89 : decode cX11_laysEnds 89 = .ok (.iload_n 2, 1) := by decide +kernel
theorem dX11_laysEnds_90 : decode cX11_laysEnds 90 = .ok (.baload, 1) := by decide +kernel
theorem dX11_laysEnds_91 : decode cX11_laysEnds 91 = .ok (.ifCond .ne 63, 3) := by decide +kernel
theorem dX11_laysEnds_94 : decode cX11_laysEnds 94 = .ok (.aload_n 0, 1) := by decide +kernel
theorem dX11_laysEnds_95 : decode cX11_laysEnds 95 = .ok (.getfield 62, 3) := by decide +kernel
theorem dX11_laysEnds_98 : decode cX11_laysEnds 98 = .ok (.iload_n 2, 1) := by decide +kernel
theorem dX11_laysEnds_99 : decode cX11_laysEnds 99 = .ok (.aload_n 0, 1) := by decide +kernel
theorem dX11_laysEnds_100 : decode cX11_laysEnds 100 = .ok (.iload_n 3, 1) := by decide +kernel
theorem dX11_laysEnds_101 : decode cX11_laysEnds 101 = .ok (.iload_n 2, 1) := by decide +kernel
theorem dX11_laysEnds_102 : decode cX11_laysEnds 102 = .ok (.iconst (-1), 1) := by decide +kernel
theorem dX11_laysEnds_103 : decode cX11_laysEnds 103 = .ok (.invokevirtual 105, 3) := by decide +kernel
theorem dX11_laysEnds_106 : decode cX11_laysEnds 106 = .ok (.ifCond .eq 21, 3) := by decide +kernel
theorem dX11_laysEnds_109 : decode cX11_laysEnds 109 = .ok (.aload_n 0, 1) := by decide +kernel
theorem dX11_laysEnds_110 : decode cX11_laysEnds 110 = .ok (.getfield 62, 3) := by decide +kernel
theorem dX11_laysEnds_113 : decode cX11_laysEnds 113 = .ok (.aload_n 0, 1) := by decide +kernel
theorem dX11_laysEnds_114 : decode cX11_laysEnds 114 = .ok (.iload_n 3, 1) := by decide +kernel
theorem dX11_laysEnds_115 : decode cX11_laysEnds 115 = .ok (.iload_n 2, 1) := by decide +kernel
theorem dX11_laysEnds_116 : decode cX11_laysEnds 116 = .ok (.invokevirtual 108, 3) := by decide +kernel
theorem dX11_laysEnds_119 : decode cX11_laysEnds 119 = .ok (.baload, 1) := by decide +kernel
theorem dX11_laysEnds_120 : decode cX11_laysEnds 120 = .ok (.ifCond .eq 7, 3) := by decide +kernel
theorem dX11_laysEnds_123 : decode cX11_laysEnds 123 = .ok (.iconst 1, 1) := by decide +kernel
theorem dX11_laysEnds_124 : decode cX11_laysEnds 124 = .ok (.goto 4, 3) := by decide +kernel
theorem dX11_laysEnds_127 : decode cX11_laysEnds 127 = .ok (.iconst 0, 1) := by decide +kernel
theorem dX11_laysEnds_128 : decode cX11_laysEnds 128 = .ok (.bastore, 1) := by decide +kernel
theorem dX11_laysEnds_129 : decode cX11_laysEnds 129 = .ok (.iload_n 1, 1) := by decide +kernel
theorem dX11_laysEnds_130 : decode cX11_laysEnds 130 = .ok (.ifCond .ne 12, 3) := by decide +kernel
theorem dX11_laysEnds_133 : decode cX11_laysEnds 133 = .ok (.aload_n 0, 1) := by decide +kernel
theorem dX11_laysEnds_134 : decode cX11_laysEnds 134 = .ok (.getfield 62, 3) := by decide +kernel
theorem dX11_laysEnds_137 : decode cX11_laysEnds 137 = .ok (.iload_n 2, 1) := by decide +kernel
theorem dX11_laysEnds_138 : decode cX11_laysEnds 138 = .ok (.baload, 1) := by decide +kernel
theorem dX11_laysEnds_139 : decode cX11_laysEnds 139 = .ok (.ifCond .eq 7, 3) := by decide +kernel
theorem dX11_laysEnds_142 : decode cX11_laysEnds 142 = .ok (.iconst 1, 1) := by decide +kernel
theorem dX11_laysEnds_143 : decode cX11_laysEnds 143 = .ok (.goto 4, 3) := by decide +kernel
theorem dX11_laysEnds_146 : decode cX11_laysEnds 146 = .ok (.iconst 0, 1) := by decide +kernel
theorem dX11_laysEnds_147 : decode cX11_laysEnds 147 = .ok (.istore_n 1, 1) := by decide +kernel
theorem dX11_laysEnds_148 : decode cX11_laysEnds 148 = .ok (.iinc 3 1, 3) := by decide +kernel
theorem dX11_laysEnds_151 : decode cX11_laysEnds 151 = .ok (.goto (-83), 3) := by decide +kernel
theorem dX11_laysEnds_154 : decode cX11_laysEnds 154 = .ok (.iinc 2 1, 3) := by decide +kernel
theorem dX11_laysEnds_157 : decode cX11_laysEnds 157 = .ok (.goto (-98), 3) := by decide +kernel
theorem dX11_laysEnds_160 : decode cX11_laysEnds 160 = .ok (.goto (-109), 3) := by decide +kernel
theorem dX11_laysEnds_163 : decode cX11_laysEnds 163 = .ok (.return_, 1) := by decide +kernel
theorem dX11_isStuck_0 : decode cX11_isStuck 0 = .ok (.aload_n 0, 1) := by decide +kernel
theorem dX11_isStuck_1 : decode cX11_isStuck 1 = .ok (.getfield 44, 3) := by decide +kernel
theorem dX11_isStuck_4 : decode cX11_isStuck 4 = .ok (.iload_n 1, 1) := by decide +kernel
theorem dX11_isStuck_5 : decode cX11_isStuck 5 = .ok (.iaload, 1) := by decide +kernel
theorem dX11_isStuck_6 : decode cX11_isStuck 6 = .ok (.ifCond .lt 29, 3) := by decide +kernel
theorem dX11_isStuck_9 : decode cX11_isStuck 9 = .ok (.aload_n 0, 1) := by decide +kernel
theorem dX11_isStuck_10 : decode cX11_isStuck 10 = .ok (.getfield 98, 3) := by decide +kernel
theorem dX11_isStuck_13 : decode cX11_isStuck 13 = .ok (.iload_n 1, 1) := by decide +kernel
theorem dX11_isStuck_14 : decode cX11_isStuck 14 = .ok (.bipush 64, 2) := by decide +kernel
theorem dX11_isStuck_16 : decode cX11_isStuck 16 = .ok (.idiv, 1) := by decide +kernel
theorem dX11_isStuck_17 : decode cX11_isStuck 17 = .ok (.invokestatic 94, 3) := by decide +kernel
theorem dX11_isStuck_20 : decode cX11_isStuck 20 = .ok (.ifCond .ne 15, 3) := by decide +kernel
theorem dX11_isStuck_23 : decode cX11_isStuck 23 = .ok (.aload_n 0, 1) := by decide +kernel
theorem dX11_isStuck_24 : decode cX11_isStuck 24 = .ok (.iload_n 1, 1) := by decide +kernel
theorem dX11_isStuck_25 : decode cX11_isStuck 25 = .ok (.invokevirtual 237, 3) := by decide +kernel
theorem dX11_isStuck_28 : decode cX11_isStuck 28 = .ok (.ifCond .ne 7, 3) := by decide +kernel
theorem dX11_isStuck_31 : decode cX11_isStuck 31 = .ok (.iconst 1, 1) := by decide +kernel
theorem dX11_isStuck_32 : decode cX11_isStuck 32 = .ok (.goto 4, 3) := by decide +kernel
theorem dX11_isStuck_35 : decode cX11_isStuck 35 = .ok (.iconst 0, 1) := by decide +kernel
theorem dX11_isStuck_36 : decode cX11_isStuck 36 = .ok (.ireturn, 1) := by decide +kernel
theorem dX11_isLost_0 : decode cX11_isLost 0 = .ok (.aload_n 0, 1) := by decide +kernel
theorem dX11_isLost_1 : decode cX11_isLost 1 = .ok (.getfield 44, 3) := by decide +kernel
theorem dX11_isLost_4 : decode cX11_isLost 4 = .ok (.iload_n 1, 1) := by decide +kernel
theorem dX11_isLost_5 : decode cX11_isLost 5 = .ok (.iaload, 1) := by decide +kernel
theorem dX11_isLost_6 : decode cX11_isLost 6 = .ok (.ifCond .lt 16, 3) := by decide +kernel
theorem dX11_isLost_9 : decode cX11_isLost 9 = .ok (.aload_n 0, 1) := by decide +kernel
theorem dX11_isLost_10 : decode cX11_isLost 10 = .ok (.getfield 62, 3) := by decide +kernel
theorem dX11_isLost_13 : decode cX11_isLost 13 = .ok (.iload_n 1, 1) := by decide +kernel
theorem dX11_isLost_14 : decode cX11_isLost 14 = .ok (.baload, 1) := by decide +kernel
theorem dX11_isLost_15 : decode cX11_isLost 15 = .ok (.ifCond .ne 7, 3) := by decide +kernel
theorem dX11_isLost_18 : decode cX11_isLost 18 = .ok (.iconst 1, 1) := by decide +kernel
theorem dX11_isLost_19 : decode cX11_isLost 19 = .ok (.goto 4, 3) := by decide +kernel
theorem dX11_isLost_22 : decode cX11_isLost 22 = .ok (.iconst 0, 1) := by decide +kernel
theorem dX11_isLost_23 : decode cX11_isLost 23 = .ok (.ireturn, 1) := by decide +kernel
theorem dX11_statesOf_0 : decode cX11_statesOf 0 = .ok (.iconst 0, 1) := by decide +kernel
theorem dX11_statesOf_1 : decode cX11_statesOf 1 = .ok (.istore_n 3, 1) := by decide +kernel
theorem dX11_statesOf_2 : decode cX11_statesOf 2 = .ok (.bipush 64, 2) := by decide +kernel
theorem dX11_statesOf_4 : decode cX11_statesOf 4 = .ok (.iload_n 1, 1) := by decide +kernel
