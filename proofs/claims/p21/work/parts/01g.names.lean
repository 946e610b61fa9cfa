theorem dL_shift_49 : decode cL_shift 49 = .ok (.ifCond .eq 10, 3) := by decide +kernel
theorem dL_shift_52 : decode cL_shift 52 = .ok (.iload 7, 2) := by decide +kernel
theorem dL_shift_54 : decode cL_shift 54 = .ok (.iconst 1, 1) := by decide +kernel
theorem dL_shift_55 : decode cL_shift 55 = .ok (.iadd, 1) := by decide +kernel
theorem dL_shift_56 : decode cL_shift 56 = .ok (.goto 5, 3) := by decide +kernel
theorem dL_shift_59 : decode cL_shift 59 = .ok (.iload 5, 2) := by decide +kernel
theorem dL_shift_61 : decode cL_shift 61 = .ok (.istore 5, 2) := by decide +kernel
theorem dL_shift_63 : decode cL_shift 63 = .ok (.iload 8, 2) := by decide +kernel
theorem dL_shift_65 : decode cL_shift 65 = .ok (.ifCond .eq 8, 3) := by decide +kernel
theorem dL_shift_68 : decode cL_shift 68 = .ok (.iload 6, 2) := by decide +kernel
theorem dL_shift_70 : decode cL_shift 70 = .ok (.goto 5, 3) := by decide +kernel
theorem dL_shift_73 : decode cL_shift 73 = .ok (.iload 7, 2) := by decide +kernel
theorem dL_shift_75 : decode cL_shift 75 = .ok (.istore 6, 2) := by decide +kernel
theorem dL_shift_77 : decode cL_shift 77 = .ok (.goto (-67), 3) := by decide +kernel
theorem dL_shift_80 : decode cL_shift 80 = .ok (.iload 5, 2) := by decide +kernel
theorem dL_shift_82 : decode cL_shift 82 = .ok (.ireturn, 1) := by decide +kernel
set_option maxRecDepth 20000 in
theorem ggL_isAdrift_L_shift : GoodIn wsL_isAdrift wsL_shift := goodIn_r _ [4, 5, 6, 3, 7, 8, 9, 10, 11, 12, 13, 14, 15, 16, 17, 18, 19, 20, 21] (by decide +kernel) (by decide +kernel)
set_option maxRecDepth 20000 in
theorem gL_isAdrift_L_shift : GoodIn wsL_isAdrift (va_wsS RL 34 yL_shift wsL_shift) := goodIn_app (goodIn_of _ (by decide +kernel)) ggL_isAdrift_L_shift
set_option maxRecDepth 20000 in
theorem ggL_isAdrift_L_force : GoodIn wsL_isAdrift wsL_force := goodIn_r _ [7, 8, 9, 3, 10, 11, 12, 13, 14, 15, 16, 17, 18, 19, 20, 21] (by decide +kernel) (by decide +kernel)
set_option maxRecDepth 20000 in
theorem gL_isAdrift_L_force : GoodIn wsL_isAdrift (va_wsS RL 30 yL_force wsL_force) := goodIn_app (goodIn_of _ (by decide +kernel)) ggL_isAdrift_L_force
theorem dL_isAdrift_0 : decode cL_isAdrift 0 = .ok (.aload_n 0, 1) := by decide +kernel
theorem dL_isAdrift_1 : decode cL_isAdrift 1 = .ok (.aload_n 1, 1) := by decide +kernel
theorem dL_isAdrift_2 : decode cL_isAdrift 2 = .ok (.aload_n 2, 1) := by decide +kernel
theorem dL_isAdrift_3 : decode cL_isAdrift 3 = .ok (.iload_n 3, 1) := by decide +kernel
theorem dL_isAdrift_4 : decode cL_isAdrift 4 = .ok (.iload 4, 2) := by decide +kernel
theorem dL_isAdrift_6 : decode cL_isAdrift 6 = .ok (.invokestatic 34, 3) := by decide +kernel
theorem dL_isAdrift_9 : decode cL_isAdrift 9 = .ok (.istore 5, 2) := by decide +kernel
theorem dL_isAdrift_11 : decode cL_isAdrift 11 = .ok (.aload_n 0, 1) := by decide +kernel
theorem dL_isAdrift_12 : decode cL_isAdrift 12 = .ok (.aload_n 1, 1) := by decide +kernel
theorem dL_isAdrift_13 : decode cL_isAdrift 13 = .ok (.aload_n 2, 1) := by decide +kernel
theorem dL_isAdrift_14 : decode cL_isAdrift 14 = .ok (.iload_n 3, 1) := by decide +kernel
theorem dL_isAdrift_15 : decode cL_isAdrift 15 = .ok (.iload 4, 2) := by decide +kernel
theorem dL_isAdrift_17 : decode cL_isAdrift 17 = .ok (.iload 5, 2) := by decide +kernel
theorem dL_isAdrift_19 : decode cL_isAdrift 19 = .ok (.invokestatic 30, 3) := by decide +kernel
theorem dL_isAdrift_22 : decode cL_isAdrift 22 = .ok (.istore 6, 2) := by decide +kernel
theorem dL_isAdrift_24 : decode cL_isAdrift 24 = .ok (.iload 5, 2) := by decide +kernel
theorem dL_isAdrift_26 : decode cL_isAdrift 26 = .ok (.sipush 200, 3) := by decide +kernel
theorem dL_isAdrift_29 : decode cL_isAdrift 29 = .ok (.if_icmp .ne 16, 3) := by decide +kernel
theorem dL_isAdrift_32 : decode cL_isAdrift 32 = .ok (.iload 6, 2) := by decide +kernel
theorem dL_isAdrift_34 : decode cL_isAdrift 34 = .ok (.ifCond .le 7, 3) := by decide +kernel
theorem dL_isAdrift_37 : decode cL_isAdrift 37 = .ok (.iconst 1, 1) := by decide +kernel
theorem dL_isAdrift_38 : decode cL_isAdrift 38 = .ok (.goto 25, 3) := by decide +kernel
theorem dL_isAdrift_41 : decode cL_isAdrift 41 = .ok (.iconst 0, 1) := by decide +kernel
theorem dL_isAdrift_42 : decode cL_isAdrift 42 = .ok (.goto 21, 3) := by decide +kernel
theorem dL_isAdrift_45 : decode cL_isAdrift 45 = .ok (.iload 5, 2) := by decide +kernel
theorem dL_isAdrift_47 : decode cL_isAdrift 47 = .ok (.sipush (-200), 3) := by decide +kernel
theorem dL_isAdrift_50 : decode cL_isAdrift 50 = .ok (.if_icmp .ne 12, 3) := by decide +kernel
theorem dL_isAdrift_53 : decode cL_isAdrift 53 = .ok (.iload 6, 2) := by decide +kernel
theorem dL_isAdrift_55 : decode cL_isAdrift 55 = .ok (.ifCond .ge 7, 3) := by decide +kernel
theorem dL_isAdrift_58 : decode cL_isAdrift 58 = .ok (.iconst 1, 1) := by decide +kernel
theorem dL_isAdrift_59 : decode cL_isAdrift 59 = .ok (.goto 4, 3) := by decide +kernel
theorem dL_isAdrift_62 : decode cL_isAdrift 62 = .ok (.iconst 0, 1) := by decide +kernel
theorem dL_isAdrift_63 : decode cL_isAdrift 63 = .ok (.ireturn, 1) := by decide +kernel
set_option maxRecDepth 20000 in
theorem ggL_onBollard_L_tension : GoodIn wsL_onBollard wsL_tension := goodIn_r _ [4, 5, 6, 3, 7, 8, 9, 10, 11, 12, 13, 14, 15] (by decide +kernel) (by decide +kernel)
set_option maxRecDepth 20000 in
theorem gL_onBollard_L_tension : GoodIn wsL_onBollard (va_wsS RL 27 yL_tension wsL_tension) := goodIn_app (goodIn_of _ (by decide +kernel)) ggL_onBollard_L_tension
theorem dL_onBollard_0 : decode cL_onBollard 0 = .ok (.iconst 0, 1) := by decide +kernel
theorem dL_onBollard_1 : decode cL_onBollard 1 = .ok (.istore 6, 2) := by decide +kernel
theorem dL_onBollard_3 : decode cL_onBollard 3 = .ok (.iconst 0, 1) := by decide +kernel
theorem dL_onBollard_4 : decode cL_onBollard 4 = .ok (.istore 7, 2) := by decide +kernel
theorem dL_onBollard_6 : decode cL_onBollard 6 = .ok (.iload 7, 2) := by decide +kernel
theorem dL_onBollard_8 : decode cL_onBollard 8 = .ok (.aload_n 2, 1) := by decide +kernel
theorem dL_onBollard_9 : decode cL_onBollard 9 = .ok (.iconst 1, 1) := by decide +kernel
theorem dL_onBollard_10 : decode cL_onBollard 10 = .ok (.iaload, 1) := by decide +kernel
theorem dL_onBollard_11 : decode cL_onBollard 11 = .ok (.if_icmp .ge 42, 3) := by decide +kernel
theorem dL_onBollard_14 : decode cL_onBollard 14 = .ok (.iload 6, 2) := by decide +kernel
theorem dL_onBollard_16 : decode cL_onBollard 16 = .ok (.aload_n 1, 1) := by decide +kernel
theorem dL_onBollard_17 : decode cL_onBollard 17 = .ok (.bipush 6, 2) := by decide +kernel
theorem dL_onBollard_19 : decode cL_onBollard 19 = .ok (.iload 7, 2) := by decide +kernel
theorem dL_onBollard_21 : decode cL_onBollard 21 = .ok (.imul, 1) := by decide +kernel
theorem dL_onBollard_22 : decode cL_onBollard 22 = .ok (.iconst 1, 1) := by decide +kernel
theorem dL_onBollard_23 : decode cL_onBollard 23 = .ok (.iadd, 1) := by decide +kernel
theorem dL_onBollard_24 : decode cL_onBollard 24 = .ok (.iaload, 1) := by decide +kernel
theorem dL_onBollard_25 : decode cL_onBollard 25 = .ok (.iload 5, 2) := by decide +kernel
theorem dL_onBollard_27 : decode cL_onBollard 27 = .ok (.if_icmp .ne 16, 3) := by decide +kernel
theorem dL_onBollard_30 : decode cL_onBollard 30 = .ok (.aload_n 0, 1) := by decide +kernel
theorem dL_onBollard_31 : decode cL_onBollard 31 = .ok (.aload_n 1, 1) := by decide +kernel
theorem dL_onBollard_32 : decode cL_onBollard 32 = .ok (.iload 7, 2) := by decide +kernel
theorem dL_onBollard_34 : decode cL_onBollard 34 = .ok (.iload_n 3, 1) := by decide +kernel
theorem dL_onBollard_35 : decode cL_onBollard 35 = .ok (.iload 4, 2) := by decide +kernel
theorem dL_onBollard_37 : decode cL_onBollard 37 = .ok (.invokestatic 27, 3) := by decide +kernel
theorem dL_onBollard_40 : decode cL_onBollard 40 = .ok (.goto 4, 3) := by decide +kernel
theorem dL_onBollard_43 : decode cL_onBollard 43 = .ok (.iconst 0, 1) := by decide +kernel
theorem dL_onBollard_44 : decode cL_onBollard 44 = .ok (.iadd, 1) := by decide +kernel
theorem dL_onBollard_45 : decode cL_onBollard 45 = .ok (.istore 6, 2) := by decide +kernel
theorem dL_onBollard_47 : decode cL_onBollard 47 = .ok (.iinc 7 1, 3) := by decide +kernel
theorem dL_onBollard_50 : decode cL_onBollard 50 = .ok (.goto (-44), 3) := by decide +kernel
theorem dL_onBollard_53 : decode cL_onBollard 53 = .ok (.iload 6, 2) := by decide +kernel
theorem dL_onBollard_55 : decode cL_onBollard 55 = .ok (.ireturn, 1) := by decide +kernel
set_option maxRecDepth 20000 in
theorem ggL_isSafe_L_shift : GoodIn wsL_isSafe wsL_shift := goodIn_r _ [6, 7, 8, 5, 9, 10, 11, 12, 13, 14, 15, 16, 17, 18, 19, 20, 21, 22, 23] (by decide +kernel) (by decide +kernel)
set_option maxRecDepth 20000 in
theorem gL_isSafe_L_shift : GoodIn wsL_isSafe (va_wsS RL 34 yL_shift wsL_shift) := goodIn_app (goodIn_of _ (by decide +kernel)) ggL_isSafe_L_shift
set_option maxRecDepth 20000 in
theorem ggL_isSafe_L_isAdrift : GoodIn wsL_isSafe wsL_isAdrift := goodIn_r _ [26, 3, 4, 5, 6, 7, 8, 9, 10, 11, 12, 13, 14, 15, 16, 17, 18, 19, 20, 21, 22, 23] (by decide +kernel) (by decide +kernel)
set_option maxRecDepth 20000 in
theorem gL_isSafe_L_isAdrift : GoodIn wsL_isSafe (va_wsS RL 38 yL_isAdrift wsL_isAdrift) := goodIn_app (goodIn_of _ (by decide +kernel)) ggL_isSafe_L_isAdrift
set_option maxRecDepth 20000 in
theorem ggL_isSafe_L_tension : GoodIn wsL_isSafe wsL_tension := goodIn_r _ [23, 10, 11, 5, 12, 13, 14, 15, 16, 17, 18, 19, 20] (by decide +kernel) (by decide +kernel)
set_option maxRecDepth 20000 in
theorem gL_isSafe_L_tension : GoodIn wsL_isSafe (va_wsS RL 27 yL_tension wsL_tension) := goodIn_app (goodIn_of _ (by decide +kernel)) ggL_isSafe_L_tension
set_option maxRecDepth 20000 in
theorem ggL_isSafe_L_onBollard : GoodIn wsL_isSafe wsL_onBollard := goodIn_r _ [29, 21, 22, 5, 23, 10, 11, 12, 13, 14, 15, 16, 17, 18, 19, 20] (by decide +kernel) (by decide +kernel)
set_option maxRecDepth 20000 in
theorem gL_isSafe_L_onBollard : GoodIn wsL_isSafe (va_wsS RL 46 yL_onBollard wsL_onBollard) := goodIn_app (goodIn_of _ (by decide +kernel)) ggL_isSafe_L_onBollard
theorem dL_isSafe_0 : decode cL_isSafe 0 = .ok (.aload_n 0, 1) := by decide +kernel
theorem dL_isSafe_1 : decode cL_isSafe 1 = .ok (.aload_n 1, 1) := by decide +kernel
theorem dL_isSafe_2 : decode cL_isSafe 2 = .ok (.aload_n 2, 1) := by decide +kernel
theorem dL_isSafe_3 : decode cL_isSafe 3 = .ok (.iload_n 3, 1) := by decide +kernel
theorem dL_isSafe_4 : decode cL_isSafe 4 = .ok (.iload 4, 2) := by decide +kernel
theorem dL_isSafe_6 : decode cL_isSafe 6 = .ok (.invokestatic 34, 3) := by decide +kernel
theorem dL_isSafe_9 : decode cL_isSafe 9 = .ok (.istore 5, 2) := by decide +kernel
theorem dL_isSafe_11 : decode cL_isSafe 11 = .ok (.aload_n 0, 1) := by decide +kernel
theorem dL_isSafe_12 : decode cL_isSafe 12 = .ok (.aload_n 1, 1) := by decide +kernel
theorem dL_isSafe_13 : decode cL_isSafe 13 = .ok (.aload_n 2, 1) := by decide +kernel
theorem dL_isSafe_14 : decode cL_isSafe 14 = .ok (.iload_n 3, 1) := by decide +kernel
theorem dL_isSafe_15 : decode cL_isSafe 15 = .ok (.iload 4, 2) := by decide +kernel
theorem dL_isSafe_17 : decode cL_isSafe 17 = .ok (.invokestatic 38, 3) := by decide +kernel
theorem dL_isSafe_20 : decode cL_isSafe 20 = .ok (.ifCond .ne 7, 3) := by decide +kernel
theorem dL_isSafe_23 : decode cL_isSafe 23 = .ok (.iconst 1, 1) := by decide +kernel
theorem dL_isSafe_24 : decode cL_isSafe 24 = .ok (.goto 4, 3) := by decide +kernel
theorem dL_isSafe_27 : decode cL_isSafe 27 = .ok (.iconst 0, 1) := by decide +kernel
theorem dL_isSafe_28 : decode cL_isSafe 28 = .ok (.istore 6, 2) := by decide +kernel
theorem dL_isSafe_30 : decode cL_isSafe 30 = .ok (.iconst 0, 1) := by decide +kernel
theorem dL_isSafe_31 : decode cL_isSafe 31 = .ok (.istore 7, 2) := by decide +kernel
theorem dL_isSafe_33 : decode cL_isSafe 33 = .ok (.iload 7, 2) := by decide +kernel
theorem dL_isSafe_35 : decode cL_isSafe 35 = .ok (.aload_n 2, 1) := by decide +kernel
theorem dL_isSafe_36 : decode cL_isSafe 36 = .ok (.iconst 1, 1) := by decide +kernel
theorem dL_isSafe_37 : decode cL_isSafe 37 = .ok (.iaload, 1) := by decide +kernel
theorem dL_isSafe_38 : decode cL_isSafe 38 = .ok (.if_icmp .ge 54, 3) := by decide +kernel
theorem dL_isSafe_41 : decode cL_isSafe 41 = .ok (.iload 6, 2) := by decide +kernel
theorem dL_isSafe_43 : decode cL_isSafe 43 = .ok (.ifCond .eq 49, 3) := by decide +kernel
theorem dL_isSafe_46 : decode cL_isSafe 46 = .ok (.ldc2_w 42, 3) := by decide +kernel
theorem dL_isSafe_49 : decode cL_isSafe 49 = .ok (.aload_n 0, 1) := by decide +kernel
theorem dL_isSafe_50 : decode cL_isSafe 50 = .ok (.aload_n 1, 1) := by decide +kernel
theorem dL_isSafe_51 : decode cL_isSafe 51 = .ok (.iload 7, 2) := by decide +kernel
theorem dL_isSafe_53 : decode cL_isSafe 53 = .ok (.iload_n 3, 1) := by decide +kernel
theorem dL_isSafe_54 : decode cL_isSafe 54 = .ok (.iload 5, 2) := by decide +kernel
theorem dL_isSafe_56 : decode cL_isSafe 56 = .ok (.invokestatic 27, 3) := by decide +kernel
theorem dL_isSafe_59 : decode cL_isSafe 59 = .ok (.i2l, 1) := by decide +kernel
theorem dL_isSafe_60 : decode cL_isSafe 60 = .ok (.lmul, 1) := by decide +kernel
theorem dL_isSafe_61 : decode cL_isSafe 61 = .ok (.ldc2_w 44, 3) := by decide +kernel
theorem dL_isSafe_64 : decode cL_isSafe 64 = .ok (.aload_n 1, 1) := by decide +kernel
theorem dL_isSafe_65 : decode cL_isSafe 65 = .ok (.bipush 6, 2) := by decide +kernel
theorem dL_isSafe_67 : decode cL_isSafe 67 = .ok (.iload 7, 2) := by decide +kernel
theorem dL_isSafe_69 : decode cL_isSafe 69 = .ok (.imul, 1) := by decide +kernel
theorem dL_isSafe_70 : decode cL_isSafe 70 = .ok (.iconst 3, 1) := by decide +kernel
theorem dL_isSafe_71 : decode cL_isSafe 71 = .ok (.iadd, 1) := by decide +kernel
theorem dL_isSafe_72 : decode cL_isSafe 72 = .ok (.iaload, 1) := by decide +kernel
theorem dL_isSafe_73 : decode cL_isSafe 73 = .ok (.i2l, 1) := by decide +kernel
theorem dL_isSafe_74 : decode cL_isSafe 74 = .ok (.lmul, 1) := by decide +kernel
theorem dL_isSafe_75 : decode cL_isSafe 75 = .ok (.lcmp, 1) := by decide +kernel
theorem dL_isSafe_76 : decode cL_isSafe 76 = .ok (.ifCond .gt 7, 3) := by decide +kernel
theorem dL_isSafe_79 : decode cL_isSafe 79 = .ok (.iconst 1, 1) := by decide +kernel
theorem dL_isSafe_80 : decode cL_isSafe 80 = .ok (.goto 4, 3) := by decide +kernel
theorem dL_isSafe_83 : decode cL_isSafe 83 = .ok (.iconst 0, 1) := by decide +kernel
theorem dL_isSafe_84 : decode cL_isSafe 84 = .ok (.istore 6, 2) := by decide +kernel
theorem dL_isSafe_86 : decode cL_isSafe 86 = .ok (.iinc 7 1, 3) := by decide +kernel
theorem dL_isSafe_89 : decode cL_isSafe 89 = .ok (.goto (-56), 3) := by decide +kernel
theorem dL_isSafe_92 : decode cL_isSafe 92 = .ok (.iconst 0, 1) := by decide +kernel
theorem dL_isSafe_93 : decode cL_isSafe 93 = .ok (.istore 7, 2) := by decide +kernel
theorem dL_isSafe_95 : decode cL_isSafe 95 = .ok (.iload 7, 2) := by decide +kernel
theorem dL_isSafe_97 : decode cL_isSafe 97 = .ok (.aload_n 2, 1) := by decide +kernel
theorem dL_isSafe_98 : decode cL_isSafe 98 = .ok (.iconst 0, 1) := by decide +kernel
theorem dL_isSafe_99 : decode cL_isSafe 99 = .ok (.iaload, 1) := by decide +kernel
theorem dL_isSafe_100 : decode cL_isSafe 100 = .ok (.if_icmp .ge 43, 3) := by decide +kernel
theorem dL_isSafe_103 : decode cL_isSafe 103 = .ok (.iload 6, 2) := by decide +kernel
theorem dL_isSafe_105 : decode cL_isSafe 105 = .ok (.ifCond .eq 38, 3) := by decide +kernel
theorem dL_isSafe_108 : decode cL_isSafe 108 = .ok (.aload_n 0, 1) := by decide +kernel
theorem dL_isSafe_109 : decode cL_isSafe 109 = .ok (.aload_n 1, 1) := by decide +kernel
theorem dL_isSafe_110 : decode cL_isSafe 110 = .ok (.aload_n 2, 1) := by decide +kernel
theorem dL_isSafe_111 : decode cL_isSafe 111 = .ok (.iload_n 3, 1) := by decide +kernel
theorem dL_isSafe_112 : decode cL_isSafe 112 = .ok (.iload 5, 2) := by decide +kernel
theorem dL_isSafe_114 : decode cL_isSafe 114 = .ok (.iload 7, 2) := by decide +kernel
theorem dL_isSafe_116 : decode cL_isSafe 116 = .ok (.invokestatic 46, 3) := by decide +kernel
theorem dL_isSafe_119 : decode cL_isSafe 119 = .ok (.aload_n 0, 1) := by decide +kernel
theorem dL_isSafe_120 : decode cL_isSafe 120 = .ok (.iconst 2, 1) := by decide +kernel
theorem dL_isSafe_121 : decode cL_isSafe 121 = .ok (.iload 7, 2) := by decide +kernel
theorem dL_isSafe_123 : decode cL_isSafe 123 = .ok (.imul, 1) := by decide +kernel
theorem dL_isSafe_124 : decode cL_isSafe 124 = .ok (.iconst 1, 1) := by decide +kernel
theorem dL_isSafe_125 : decode cL_isSafe 125 = .ok (.iadd, 1) := by decide +kernel
theorem dL_isSafe_126 : decode cL_isSafe 126 = .ok (.iaload, 1) := by decide +kernel
theorem dL_isSafe_127 : decode cL_isSafe 127 = .ok (.if_icmp .gt 7, 3) := by decide +kernel
theorem dL_isSafe_130 : decode cL_isSafe 130 = .ok (.iconst 1, 1) := by decide +kernel
theorem dL_isSafe_131 : decode cL_isSafe 131 = .ok (.goto 4, 3) := by decide +kernel
theorem dL_isSafe_134 : decode cL_isSafe 134 = .ok (.iconst 0, 1) := by decide +kernel
theorem dL_isSafe_135 : decode cL_isSafe 135 = .ok (.istore 6, 2) := by decide +kernel
theorem dL_isSafe_137 : decode cL_isSafe 137 = .ok (.iinc 7 1, 3) := by decide +kernel
theorem dL_isSafe_140 : decode cL_isSafe 140 = .ok (.goto (-45), 3) := by decide +kernel
theorem dL_isSafe_143 : decode cL_isSafe 143 = .ok (.iload 6, 2) := by decide +kernel
theorem dL_isSafe_145 : decode cL_isSafe 145 = .ok (.ireturn, 1) := by decide +kernel
set_option maxRecDepth 20000 in
theorem ggL_tended_L_shift : GoodIn wsL_tended wsL_shift := goodIn_r _ [5, 6, 7, 4, 8, 9, 10, 11, 12, 13, 14, 15, 16, 17, 18, 19, 20, 21, 22] (by decide +kernel) (by decide +kernel)
set_option maxRecDepth 20000 in
theorem gL_tended_L_shift : GoodIn wsL_tended (va_wsS RL 34 yL_shift wsL_shift) := goodIn_app (goodIn_of _ (by decide +kernel)) ggL_tended_L_shift
set_option maxRecDepth 20000 in
theorem ggL_tended_L_length : GoodIn wsL_tended wsL_length := goodIn_r _ [11, 12, 13, 4, 14, 15, 16, 17, 18, 19] (by decide +kernel) (by decide +kernel)
set_option maxRecDepth 20000 in
theorem gL_tended_L_length : GoodIn wsL_tended (va_wsS RL 23 yL_length wsL_length) := goodIn_app (goodIn_of _ (by decide +kernel)) ggL_tended_L_length
theorem dL_tended_0 : decode cL_tended 0 = .ok (.iconst 0, 1) := by decide +kernel
theorem dL_tended_1 : decode cL_tended 1 = .ok (.istore 5, 2) := by decide +kernel
theorem dL_tended_3 : decode cL_tended 3 = .ok (.aload_n 0, 1) := by decide +kernel
theorem dL_tended_4 : decode cL_tended 4 = .ok (.aload_n 1, 1) := by decide +kernel
theorem dL_tended_5 : decode cL_tended 5 = .ok (.aload_n 2, 1) := by decide +kernel
theorem dL_tended_6 : decode cL_tended 6 = .ok (.iload_n 3, 1) := by decide +kernel
theorem dL_tended_7 : decode cL_tended 7 = .ok (.iload 4, 2) := by decide +kernel
theorem dL_tended_9 : decode cL_tended 9 = .ok (.invokestatic 34, 3) := by decide +kernel
theorem dL_tended_12 : decode cL_tended 12 = .ok (.istore 6, 2) := by decide +kernel
theorem dL_tended_14 : decode cL_tended 14 = .ok (.bipush 6, 2) := by decide +kernel
theorem dL_tended_16 : decode cL_tended 16 = .ok (.newarray .int, 2) := by decide +kernel
theorem dL_tended_18 : decode cL_tended 18 = .ok (.astore 7, 2) := by decide +kernel
theorem dL_tended_20 : decode cL_tended 20 = .ok (.iconst 0, 1) := by decide +kernel
theorem dL_tended_21 : decode cL_tended 21 = .ok (.istore 8, 2) := by decide +kernel
theorem dL_tended_23 : decode cL_tended 23 = .ok (.iload 8, 2) := by decide +kernel
theorem dL_tended_25 : decode cL_tended 25 = .ok (.aload_n 2, 1) := by decide +kernel
theorem dL_tended_26 : decode cL_tended 26 = .ok (.iconst 1, 1) := by decide +kernel
theorem dL_tended_27 : decode cL_tended 27 = .ok (.iaload, 1) := by decide +kernel
theorem dL_tended_28 : decode cL_tended 28 = .ok (.if_icmp .ge 24, 3) := by decide +kernel
theorem dL_tended_31 : decode cL_tended 31 = .ok (.aload 7, 2) := by decide +kernel
theorem dL_tended_33 : decode cL_tended 33 = .ok (.iload 8, 2) := by decide +kernel
theorem dL_tended_35 : decode cL_tended 35 = .ok (.aload_n 0, 1) := by decide +kernel
theorem dL_tended_36 : decode cL_tended 36 = .ok (.aload_n 1, 1) := by decide +kernel
theorem dL_tended_37 : decode cL_tended 37 = .ok (.iload 8, 2) := by decide +kernel
theorem dL_tended_39 : decode cL_tended 39 = .ok (.iload_n 3, 1) := by decide +kernel
theorem dL_tended_40 : decode cL_tended 40 = .ok (.iload 6, 2) := by decide +kernel
theorem dL_tended_42 : decode cL_tended 42 = .ok (.invokestatic 23, 3) := by decide +kernel
theorem dL_tended_45 : decode cL_tended 45 = .ok (.iastore, 1) := by decide +kernel
theorem dL_tended_46 : decode cL_tended 46 = .ok (.iinc 8 1, 3) := by decide +kernel
theorem dL_tended_49 : decode cL_tended 49 = .ok (.goto (-26), 3) := by decide +kernel
theorem dL_tended_52 : decode cL_tended 52 = .ok (.iconst 0, 1) := by decide +kernel
theorem dL_tended_53 : decode cL_tended 53 = .ok (.istore 8, 2) := by decide +kernel
theorem dL_tended_55 : decode cL_tended 55 = .ok (.iload 8, 2) := by decide +kernel
theorem dL_tended_57 : decode cL_tended 57 = .ok (.aload_n 2, 1) := by decide +kernel
theorem dL_tended_58 : decode cL_tended 58 = .ok (.iconst 1, 1) := by decide +kernel
theorem dL_tended_59 : decode cL_tended 59 = .ok (.iaload, 1) := by decide +kernel
theorem dL_tended_60 : decode cL_tended 60 = .ok (.if_icmp .ge 91, 3) := by decide +kernel
theorem dL_tended_63 : decode cL_tended 63 = .ok (.aload_n 1, 1) := by decide +kernel
theorem dL_tended_64 : decode cL_tended 64 = .ok (.bipush 6, 2) := by decide +kernel
theorem dL_tended_66 : decode cL_tended 66 = .ok (.iload 8, 2) := by decide +kernel
theorem dL_tended_68 : decode cL_tended 68 = .ok (.imul, 1) := by decide +kernel
theorem dL_tended_69 : decode cL_tended 69 = .ok (.iconst 5, 1) := by decide +kernel
theorem dL_tended_70 : decode cL_tended 70 = .ok (.iadd, 1) := by decide +kernel
theorem dL_tended_71 : decode cL_tended 71 = .ok (.iaload, 1) := by decide +kernel
theorem dL_tended_72 : decode cL_tended 72 = .ok (.ifCond .ne 24, 3) := by decide +kernel
theorem dL_tended_75 : decode cL_tended 75 = .ok (.aload_n 1, 1) := by decide +kernel
theorem dL_tended_76 : decode cL_tended 76 = .ok (.bipush 6, 2) := by decide +kernel
theorem dL_tended_78 : decode cL_tended 78 = .ok (.iload 8, 2) := by decide +kernel
theorem dL_tended_80 : decode cL_tended 80 = .ok (.imul, 1) := by decide +kernel
theorem dL_tended_81 : decode cL_tended 81 = .ok (.iconst 4, 1) := by decide +kernel
theorem dL_tended_82 : decode cL_tended 82 = .ok (.iadd, 1) := by decide +kernel
theorem dL_tended_83 : decode cL_tended 83 = .ok (.iaload, 1) := by decide +kernel
theorem dL_tended_84 : decode cL_tended 84 = .ok (.aload 7, 2) := by decide +kernel
theorem dL_tended_86 : decode cL_tended 86 = .ok (.iload 8, 2) := by decide +kernel
theorem dL_tended_88 : decode cL_tended 88 = .ok (.iaload, 1) := by decide +kernel
theorem dL_tended_89 : decode cL_tended 89 = .ok (.if_icmp .eq 7, 3) := by decide +kernel
theorem dL_tended_92 : decode cL_tended 92 = .ok (.iconst 1, 1) := by decide +kernel
theorem dL_tended_93 : decode cL_tended 93 = .ok (.goto 4, 3) := by decide +kernel
theorem dL_tended_96 : decode cL_tended 96 = .ok (.iconst 0, 1) := by decide +kernel
theorem dL_tended_97 : decode cL_tended 97 = .ok (.istore 9, 2) := by decide +kernel
theorem dL_tended_99 : decode cL_tended 99 = .ok (.aload_n 1, 1) := by decide +kernel
theorem dL_tended_100 : decode cL_tended 100 = .ok (.bipush 6, 2) := by decide +kernel
theorem dL_tended_102 : decode cL_tended 102 = .ok (.iload 8, 2) := by decide +kernel
theorem dL_tended_104 : decode cL_tended 104 = .ok (.imul, 1) := by decide +kernel
theorem dL_tended_105 : decode cL_tended 105 = .ok (.iconst 4, 1) := by decide +kernel
theorem dL_tended_106 : decode cL_tended 106 = .ok (.iadd, 1) := by decide +kernel
theorem dL_tended_107 : decode cL_tended 107 = .ok (.iload 9, 2) := by decide +kernel
theorem dL_tended_109 : decode cL_tended 109 = .ok (.ifCond .eq 11, 3) := by decide +kernel
theorem dL_tended_112 : decode cL_tended 112 = .ok (.aload 7, 2) := by decide +kernel
theorem dL_tended_114 : decode cL_tended 114 = .ok (.iload 8, 2) := by decide +kernel
theorem dL_tended_116 : decode cL_tended 116 = .ok (.iaload, 1) := by decide +kernel
theorem dL_tended_117 : decode cL_tended 117 = .ok (.goto 12, 3) := by decide +kernel
theorem dL_tended_120 : decode cL_tended 120 = .ok (.aload_n 1, 1) := by decide +kernel
theorem dL_tended_121 : decode cL_tended 121 = .ok (.bipush 6, 2) := by decide +kernel
theorem dL_tended_123 : decode cL_tended 123 = .ok (.iload 8, 2) := by decide +kernel
theorem dL_tended_125 : decode cL_tended 125 = .ok (.imul, 1) := by decide +kernel
theorem dL_tended_126 : decode cL_tended 126 = .ok (.iconst 4, 1) := by decide +kernel
theorem dL_tended_127 : decode cL_tended 127 = .ok (.iadd, 1) := by decide +kernel
theorem dL_tended_128 : decode cL_tended 128 = .ok (.iaload, 1) := by decide +kernel
theorem dL_tended_129 : decode cL_tended 129 = .ok (.iastore, 1) := by decide +kernel
theorem dL_tended_130 : decode cL_tended 130 = .ok (.iload 5, 2) := by decide +kernel
theorem dL_tended_132 : decode cL_tended 132 = .ok (.iload 9, 2) := by decide +kernel
theorem dL_tended_134 : decode cL_tended 134 = .ok (.ifCond .eq 7, 3) := by decide +kernel
theorem dL_tended_137 : decode cL_tended 137 = .ok (.iconst 1, 1) := by decide +kernel
theorem dL_tended_138 : decode cL_tended 138 = .ok (.goto 4, 3) := by decide +kernel
theorem dL_tended_141 : decode cL_tended 141 = .ok (.iconst 0, 1) := by decide +kernel
theorem dL_tended_142 : decode cL_tended 142 = .ok (.iadd, 1) := by decide +kernel
theorem dL_tended_143 : decode cL_tended 143 = .ok (.istore 5, 2) := by decide +kernel
theorem dL_tended_145 : decode cL_tended 145 = .ok (.iinc 8 1, 3) := by decide +kernel
theorem dL_tended_148 : decode cL_tended 148 = .ok (.goto (-93), 3) := by decide +kernel
theorem dL_tended_151 : decode cL_tended 151 = .ok (.iload 5, 2) := by decide +kernel
theorem dL_tended_153 : decode cL_tended 153 = .ok (.ireturn, 1) := by decide +kernel
set_option maxRecDepth 20000 in
theorem ggL_plan_L_isSafe : GoodIn wsL_plan wsL_isSafe := goodIn_r _ [5, 6, 7, 8, 9, 4, 10, 11, 12, 13, 14, 15, 16, 17, 18, 19, 20, 21, 22, 23, 24, 25, 26, 27, 28, 29, 30, 31, 32, 33] (by decide +kernel) (by decide +kernel)
set_option maxRecDepth 20000 in
theorem gL_plan_L_isSafe : GoodIn wsL_plan (va_wsS RL 49 yL_isSafe wsL_isSafe) := goodIn_app (goodIn_of _ (by decide +kernel)) ggL_plan_L_isSafe
set_option maxRecDepth 20000 in
theorem ggL_plan_L_tended : GoodIn wsL_plan wsL_tended := goodIn_r _ [36, 1, 8, 9, 4, 10, 11, 12, 13, 14, 15, 16, 17, 18, 19, 20, 21, 22, 23, 24, 25, 26, 27] (by decide +kernel) (by decide +kernel)
set_option maxRecDepth 20000 in
theorem gL_plan_L_tended : GoodIn wsL_plan (va_wsS RL 52 yL_tended wsL_tended) := goodIn_app (goodIn_of _ (by decide +kernel)) ggL_plan_L_tended
theorem dL_plan_0 : decode cL_plan 0 = .ok (.bipush 36, 2) := by decide +kernel
theorem dL_plan_2 : decode cL_plan 2 = .ok (.newarray .int, 2) := by decide +kernel
theorem dL_plan_4 : decode cL_plan 4 = .ok (.astore 8, 2) := by decide +kernel
theorem dL_plan_6 : decode cL_plan 6 = .ok (.iconst 0, 1) := by decide +kernel
theorem dL_plan_7 : decode cL_plan 7 = .ok (.istore 9, 2) := by decide +kernel
theorem dL_plan_9 : decode cL_plan 9 = .ok (.iconst 0, 1) := by decide +kernel
theorem dL_plan_10 : decode cL_plan 10 = .ok (.istore 10, 2) := by decide +kernel
theorem dL_plan_12 : decode cL_plan 12 = .ok (.iload 10, 2) := by decide +kernel
theorem dL_plan_14 : decode cL_plan 14 = .ok (.bipush 36, 2) := by decide +kernel
theorem dL_plan_16 : decode cL_plan 16 = .ok (.if_icmp .ge 18, 3) := by decide +kernel
theorem dL_plan_19 : decode cL_plan 19 = .ok (.aload 8, 2) := by decide +kernel
theorem dL_plan_21 : decode cL_plan 21 = .ok (.iload 10, 2) := by decide +kernel
theorem dL_plan_23 : decode cL_plan 23 = .ok (.aload_n 1, 1) := by decide +kernel
theorem dL_plan_24 : decode cL_plan 24 = .ok (.iload 10, 2) := by decide +kernel
theorem dL_plan_26 : decode cL_plan 26 = .ok (.iaload, 1) := by decide +kernel
theorem dL_plan_27 : decode cL_plan 27 = .ok (.iastore, 1) := by decide +kernel
theorem dL_plan_28 : decode cL_plan 28 = .ok (.iinc 10 1, 3) := by decide +kernel
theorem dL_plan_31 : decode cL_plan 31 = .ok (.goto (-19), 3) := by decide +kernel
theorem dL_plan_34 : decode cL_plan 34 = .ok (.iload 6, 2) := by decide +kernel
theorem dL_plan_36 : decode cL_plan 36 = .ok (.istore 10, 2) := by decide +kernel
theorem dL_plan_38 : decode cL_plan 38 = .ok (.iload 10, 2) := by decide +kernel
theorem dL_plan_40 : decode cL_plan 40 = .ok (.iload 7, 2) := by decide +kernel
theorem dL_plan_42 : decode cL_plan 42 = .ok (.if_icmp .gt 81, 3) := by decide +kernel
theorem dL_plan_45 : decode cL_plan 45 = .ok (.sipush 300, 3) := by decide +kernel
theorem dL_plan_48 : decode cL_plan 48 = .ok (.aload_n 2, 1) := by decide +kernel
theorem dL_plan_49 : decode cL_plan 49 = .ok (.iload 10, 2) := by decide +kernel
theorem dL_plan_51 : decode cL_plan 51 = .ok (.iaload, 1) := by decide +kernel
theorem dL_plan_52 : decode cL_plan 52 = .ok (.iadd, 1) := by decide +kernel
theorem dL_plan_53 : decode cL_plan 53 = .ok (.aload_n 3, 1) := by decide +kernel
theorem dL_plan_54 : decode cL_plan 54 = .ok (.iload 10, 2) := by decide +kernel
theorem dL_plan_56 : decode cL_plan 56 = .ok (.iaload, 1) := by decide +kernel
theorem dL_plan_57 : decode cL_plan 57 = .ok (.iadd, 1) := by decide +kernel
theorem dL_plan_58 : decode cL_plan 58 = .ok (.istore 11, 2) := by decide +kernel
theorem dL_plan_60 : decode cL_plan 60 = .ok (.aload_n 0, 1) := by decide +kernel
theorem dL_plan_61 : decode cL_plan 61 = .ok (.aload 8, 2) := by decide +kernel
theorem dL_plan_63 : decode cL_plan 63 = .ok (.aload 5, 2) := by decide +kernel
theorem dL_plan_65 : decode cL_plan 65 = .ok (.iload 11, 2) := by decide +kernel
theorem dL_plan_67 : decode cL_plan 67 = .ok (.aload 4, 2) := by decide +kernel
theorem dL_plan_69 : decode cL_plan 69 = .ok (.iload 10, 2) := by decide +kernel
theorem dL_plan_71 : decode cL_plan 71 = .ok (.iaload, 1) := by decide +kernel
theorem dL_plan_72 : decode cL_plan 72 = .ok (.invokestatic 49, 3) := by decide +kernel
theorem dL_plan_75 : decode cL_plan 75 = .ok (.ifCond .ne 42, 3) := by decide +kernel
theorem dL_plan_78 : decode cL_plan 78 = .ok (.aload_n 0, 1) := by decide +kernel
theorem dL_plan_79 : decode cL_plan 79 = .ok (.aload 8, 2) := by decide +kernel
theorem dL_plan_81 : decode cL_plan 81 = .ok (.aload 5, 2) := by decide +kernel
theorem dL_plan_83 : decode cL_plan 83 = .ok (.iload 11, 2) := by decide +kernel
theorem dL_plan_85 : decode cL_plan 85 = .ok (.aload 4, 2) := by decide +kernel
theorem dL_plan_87 : decode cL_plan 87 = .ok (.iload 10, 2) := by decide +kernel
theorem dL_plan_89 : decode cL_plan 89 = .ok (.iaload, 1) := by decide +kernel
theorem dL_plan_90 : decode cL_plan 90 = .ok (.invokestatic 52, 3) := by decide +kernel
theorem dL_plan_93 : decode cL_plan 93 = .ok (.pop, 1) := by decide +kernel
theorem dL_plan_94 : decode cL_plan 94 = .ok (.iinc 9 1, 3) := by decide +kernel
theorem dL_plan_97 : decode cL_plan 97 = .ok (.aload_n 0, 1) := by decide +kernel
theorem dL_plan_98 : decode cL_plan 98 = .ok (.aload 8, 2) := by decide +kernel
theorem dL_plan_100 : decode cL_plan 100 = .ok (.aload 5, 2) := by decide +kernel
theorem dL_plan_102 : decode cL_plan 102 = .ok (.iload 11, 2) := by decide +kernel
theorem dL_plan_104 : decode cL_plan 104 = .ok (.aload 4, 2) := by decide +kernel
theorem dL_plan_106 : decode cL_plan 106 = .ok (.iload 10, 2) := by decide +kernel
theorem dL_plan_108 : decode cL_plan 108 = .ok (.iaload, 1) := by decide +kernel
theorem dL_plan_109 : decode cL_plan 109 = .ok (.invokestatic 49, 3) := by decide +kernel
theorem dL_plan_112 : decode cL_plan 112 = .ok (.ifCond .ne 5, 3) := by decide +kernel
theorem dL_plan_115 : decode cL_plan 115 = .ok (.iconst (-1), 1) := by decide +kernel
theorem dL_plan_116 : decode cL_plan 116 = .ok (.ireturn, 1) := by decide +kernel
theorem dL_plan_117 : decode cL_plan 117 = .ok (.iinc 10 1, 3) := by decide +kernel
theorem dL_plan_120 : decode cL_plan 120 = .ok (.goto (-82), 3) := by decide +kernel
theorem dL_plan_123 : decode cL_plan 123 = .ok (.iload 9, 2) := by decide +kernel
theorem dL_plan_125 : decode cL_plan 125 = .ok (.ireturn, 1) := by decide +kernel
set_option maxRecDepth 20000 in
theorem ggL_isTold_L_shift : GoodIn wsL_isTold wsL_shift := goodIn_r _ [4, 5, 6, 3, 7, 8, 9, 10, 11, 12, 13, 14, 15, 16, 17, 18, 19, 20, 21] (by decide +kernel) (by decide +kernel)
set_option maxRecDepth 20000 in
theorem gL_isTold_L_shift : GoodIn wsL_isTold (va_wsS RL 34 yL_shift wsL_shift) := goodIn_app (goodIn_of _ (by decide +kernel)) ggL_isTold_L_shift
set_option maxRecDepth 20000 in
theorem ggL_isTold_X0_shift : GoodIn wsL_isTold wsX0_shift := goodIn_ca (goodIn_r _ [26, 27, 28, 25, 29, 30, 31, 32, 33, 34, 35, 36, 37, 38, 39, 40, 41, 42, 43, 44, 45, 46, 47, 48, 49, 50, 51, 52, 53, 54, 55, 56, 57, 58, 59, 60, 61, 62, 63, 64, 65, 66, 67, 68, 69, 70, 71, 148, 149, 150, 151, 152, 153, 154, 155, 156, 157, 158, 159, 160, 161, 162] (by decide +kernel) (by decide +kernel)) (goodIn_sub (fun _ h => List.mem_cons_of_mem _ (List.mem_append_left _ (List.mem_append_right _ h))) (by decide +kernel))
set_option maxRecDepth 20000 in
theorem gL_isTold_X0_shift : GoodIn wsL_isTold (wsV RL 55 RX0 yX0_shift wsX0_shift) := goodIn_app (goodIn_of _ (by decide +kernel)) ggL_isTold_X0_shift
set_option maxRecDepth 20000 in
theorem ggL_isTold_X0_isAdrift : GoodIn wsL_isTold wsX0_isAdrift := goodIn_ca (goodIn_r _ [75, 27, 28, 25, 29, 30, 31, 32, 33, 34, 35, 36, 37, 38, 39, 40, 41, 42, 43, 44, 45, 46, 47, 48, 49, 50, 51, 52, 53, 54, 55, 56, 57, 58, 59, 60, 61, 62, 63, 64, 65, 66, 67, 68, 69, 70, 71, 76, 77, 78, 79, 148, 149, 150, 151, 152, 153, 154, 155, 156, 157, 158, 159, 160, 161, 162] (by decide +kernel) (by decide +kernel)) (goodIn_sub (fun _ h => List.mem_cons_of_mem _ (List.mem_append_left _ (List.mem_append_right _ h))) (by decide +kernel))
set_option maxRecDepth 20000 in
theorem gL_isTold_X0_isAdrift : GoodIn wsL_isTold (wsV RL 60 RX0 yX0_isAdrift wsX0_isAdrift) := goodIn_app (goodIn_of _ (by decide +kernel)) ggL_isTold_X0_isAdrift
set_option maxRecDepth 20000 in
theorem ggL_isTold_L_isAdrift : GoodIn wsL_isTold wsL_isAdrift := goodIn_r _ [82, 1, 2, 3, 4, 5, 6, 7, 8, 9, 10, 11, 12, 13, 14, 15, 16, 17, 18, 19, 20, 21] (by decide +kernel) (by decide +kernel)
set_option maxRecDepth 20000 in
theorem gL_isTold_L_isAdrift : GoodIn wsL_isTold (va_wsS RL 38 yL_isAdrift wsL_isAdrift) := goodIn_app (goodIn_of _ (by decide +kernel)) ggL_isTold_L_isAdrift
set_option maxRecDepth 20000 in
theorem ggL_isTold_X0_isSafe : GoodIn wsL_isTold wsX0_isSafe := goodIn_ca (goodIn_r _ [86, 27, 28, 25, 29, 30, 31, 87, 88, 89, 90, 32, 33, 34, 35, 36, 37, 38, 39, 40, 41, 42, 43, 44, 45, 46, 47, 48, 49, 50, 51, 52, 53, 54, 55, 56, 57, 58, 59, 60, 61, 62, 63, 64, 65, 66, 67, 68, 69, 70, 71, 76, 77, 78, 79, 91, 92, 93, 94, 95, 96, 97, 98, 99, 100, 101, 102, 103, 104, 105, 106, 107, 108, 109, 110, 148, 149, 150, 151, 152, 153, 154, 155, 156, 157, 158, 159, 160, 161, 162] (by decide +kernel) (by decide +kernel)) (goodIn_sub (fun _ h => List.mem_cons_of_mem _ (List.mem_append_left _ (List.mem_append_right _ h))) (by decide +kernel))
set_option maxRecDepth 20000 in
theorem gL_isTold_X0_isSafe : GoodIn wsL_isTold (wsV RL 63 RX0 yX0_isSafe wsX0_isSafe) := goodIn_app (goodIn_of _ (by decide +kernel)) ggL_isTold_X0_isSafe
set_option maxRecDepth 20000 in
theorem ggL_isTold_L_isSafe : GoodIn wsL_isTold wsL_isSafe := goodIn_r _ [113, 114, 115, 1, 2, 3, 4, 5, 6, 7, 8, 9, 10, 11, 12, 13, 14, 15, 16, 17, 18, 19, 20, 21, 80, 81, 82, 116, 117, 118] (by decide +kernel) (by decide +kernel)
set_option maxRecDepth 20000 in
theorem gL_isTold_L_isSafe : GoodIn wsL_isTold (va_wsS RL 49 yL_isSafe wsL_isSafe) := goodIn_app (goodIn_of _ (by decide +kernel)) ggL_isTold_L_isSafe
set_option maxRecDepth 20000 in
theorem ggL_isTold_X0_force : GoodIn wsL_isTold wsX0_force := goodIn_ca (goodIn_ca (goodIn_r _ [122, 27, 28, 25, 29, 30, 31, 123, 124, 125, 126, 127, 40, 41, 42, 43, 44, 45, 46, 47, 48, 49, 50, 51, 52, 53, 54, 55, 56, 57, 58, 59, 60, 61, 62, 63, 64, 65, 66, 67, 68, 69, 70, 71, 148, 149, 150, 151, 152, 153, 154, 155, 156, 157, 158, 159, 160, 161, 162] (by decide +kernel) (by decide +kernel)) (goodIn_sub (fun _ h => List.mem_cons_of_mem _ (List.mem_append_left _ (List.mem_append_right _ h))) (by decide +kernel))) (goodIn_sub (fun _ h => List.mem_cons_of_mem _ (List.mem_append_right _ h)) (by decide +kernel))
set_option maxRecDepth 20000 in
theorem gL_isTold_X0_force : GoodIn wsL_isTold (wsV RL 65 RX0 yX0_force wsX0_force) := goodIn_app (goodIn_of _ (by decide +kernel)) ggL_isTold_X0_force
set_option maxRecDepth 20000 in
theorem ggL_isTold_L_force : GoodIn wsL_isTold wsL_force := goodIn_r _ [7, 8, 9, 3, 10, 11, 12, 13, 14, 15, 16, 17, 18, 19, 20, 21] (by decide +kernel) (by decide +kernel)
set_option maxRecDepth 20000 in
theorem gL_isTold_L_force : GoodIn wsL_isTold (va_wsS RL 30 yL_force wsL_force) := goodIn_app (goodIn_of _ (by decide +kernel)) ggL_isTold_L_force
set_option maxRecDepth 20000 in
theorem ggL_isTold_X0_length : GoodIn wsL_isTold wsX0_length := goodIn_ca (goodIn_r _ [131, 132, 133, 134, 25, 135, 30, 31, 46, 27, 28, 29, 32, 33, 34, 35, 36, 37, 38, 39, 40, 41, 42, 43, 44, 45, 47, 48, 49, 50, 51, 52, 53, 54, 55, 56, 57, 58, 59, 60, 61, 62, 63, 64, 65, 66, 67, 68, 69, 70, 71, 96, 97, 98, 99, 148, 149, 150, 151, 152, 153, 154, 155, 156, 157, 158, 159, 160, 161, 162] (by decide +kernel) (by decide +kernel)) (goodIn_sub (fun _ h => List.mem_cons_of_mem _ (List.mem_append_left _ (List.mem_append_right _ h))) (by decide +kernel))
set_option maxRecDepth 20000 in
theorem gL_isTold_X0_length : GoodIn wsL_isTold (wsV RL 68 RX0 yX0_length wsX0_length) := goodIn_app (goodIn_of _ (by decide +kernel)) ggL_isTold_X0_length
set_option maxRecDepth 20000 in
theorem ggL_isTold_L_length : GoodIn wsL_isTold wsL_length := goodIn_r _ [10, 11, 12, 3, 13, 14, 15, 16, 17, 18] (by decide +kernel) (by decide +kernel)
set_option maxRecDepth 20000 in
theorem gL_isTold_L_length : GoodIn wsL_isTold (va_wsS RL 23 yL_length wsL_length) := goodIn_app (goodIn_of _ (by decide +kernel)) ggL_isTold_L_length
set_option maxRecDepth 20000 in
theorem ggL_isTold_X0_tension : GoodIn wsL_isTold wsX0_tension := goodIn_ca (goodIn_r _ [139, 132, 133, 134, 25, 135, 30, 31, 46, 27, 28, 29, 32, 33, 34, 35, 36, 37, 38, 39, 40, 41, 42, 43, 44, 45, 47, 48, 49, 50, 51, 52, 53, 54, 55, 56, 57, 58, 59, 60, 61, 62, 63, 64, 65, 66, 67, 68, 69, 70, 71, 96, 97, 98, 99, 148, 149, 150, 151, 152, 153, 154, 155, 156, 157, 158, 159, 160, 161, 162] (by decide +kernel) (by decide +kernel)) (goodIn_sub (fun _ h => List.mem_cons_of_mem _ (List.mem_append_left _ (List.mem_append_right _ h))) (by decide +kernel))
set_option maxRecDepth 20000 in
theorem gL_isTold_X0_tension : GoodIn wsL_isTold (wsV RL 70 RX0 yX0_tension wsX0_tension) := goodIn_app (goodIn_of _ (by decide +kernel)) ggL_isTold_X0_tension
set_option maxRecDepth 20000 in
theorem ggL_isTold_L_tension : GoodIn wsL_isTold wsL_tension := goodIn_r _ [21, 8, 9, 3, 10, 11, 12, 13, 14, 15, 16, 17, 18] (by decide +kernel) (by decide +kernel)
set_option maxRecDepth 20000 in
theorem gL_isTold_L_tension : GoodIn wsL_isTold (va_wsS RL 27 yL_tension wsL_tension) := goodIn_app (goodIn_of _ (by decide +kernel)) ggL_isTold_L_tension
set_option maxRecDepth 20000 in
theorem ggL_isTold_X0_onBollard : GoodIn wsL_isTold wsX0_onBollard := goodIn_ca (goodIn_r _ [143, 144, 145, 146, 25, 147, 30, 31, 104, 27, 28, 29, 32, 33, 34, 35, 36, 37, 38, 39, 40, 41, 42, 43, 44, 45, 46, 47, 48, 49, 50, 51, 52, 53, 54, 55, 56, 57, 58, 59, 60, 61, 62, 63, 64, 65, 66, 67, 68, 69, 70, 71, 106, 107, 108, 109, 110, 96, 97, 98, 99, 148, 149, 150, 151, 152, 153, 154, 155, 156, 157, 158, 159, 160, 161, 162] (by decide +kernel) (by decide +kernel)) (goodIn_sub (fun _ h => List.mem_cons_of_mem _ (List.mem_append_left _ (List.mem_append_right _ h))) (by decide +kernel))
set_option maxRecDepth 20000 in
theorem gL_isTold_X0_onBollard : GoodIn wsL_isTold (wsV RL 72 RX0 yX0_onBollard wsX0_onBollard) := goodIn_app (goodIn_of _ (by decide +kernel)) ggL_isTold_X0_onBollard
set_option maxRecDepth 20000 in
theorem ggL_isTold_L_onBollard : GoodIn wsL_isTold wsL_onBollard := goodIn_r _ [118, 19, 20, 3, 21, 8, 9, 10, 11, 12, 13, 14, 15, 16, 17, 18] (by decide +kernel) (by decide +kernel)
set_option maxRecDepth 20000 in
theorem gL_isTold_L_onBollard : GoodIn wsL_isTold (va_wsS RL 46 yL_onBollard wsL_onBollard) := goodIn_app (goodIn_of _ (by decide +kernel)) ggL_isTold_L_onBollard
theorem dL_isTold_0 : decode cL_isTold 0 = .ok (.sipush 300, 3) := by decide +kernel
theorem dL_isTold_3 : decode cL_isTold 3 = .ok (.aload_n 3, 1) := by decide +kernel
theorem dL_isTold_4 : decode cL_isTold 4 = .ok (.iload 7, 2) := by decide +kernel
theorem dL_isTold_6 : decode cL_isTold 6 = .ok (.iaload, 1) := by decide +kernel
theorem dL_isTold_7 : decode cL_isTold 7 = .ok (.iadd, 1) := by decide +kernel
theorem dL_isTold_8 : decode cL_isTold 8 = .ok (.aload 4, 2) := by decide +kernel
theorem dL_isTold_10 : decode cL_isTold 10 = .ok (.iload 7, 2) := by decide +kernel
theorem dL_isTold_12 : decode cL_isTold 12 = .ok (.iaload, 1) := by decide +kernel
theorem dL_isTold_13 : decode cL_isTold 13 = .ok (.iadd, 1) := by decide +kernel
theorem dL_isTold_14 : decode cL_isTold 14 = .ok (.istore 9, 2) := by decide +kernel
theorem dL_isTold_16 : decode cL_isTold 16 = .ok (.aload_n 1, 1) := by decide +kernel
theorem dL_isTold_17 : decode cL_isTold 17 = .ok (.aload_n 2, 1) := by decide +kernel
theorem dL_isTold_18 : decode cL_isTold 18 = .ok (.aload 6, 2) := by decide +kernel
theorem dL_isTold_20 : decode cL_isTold 20 = .ok (.iload 9, 2) := by decide +kernel
theorem dL_isTold_22 : decode cL_isTold 22 = .ok (.aload 5, 2) := by decide +kernel
theorem dL_isTold_24 : decode cL_isTold 24 = .ok (.iload 7, 2) := by decide +kernel
theorem dL_isTold_26 : decode cL_isTold 26 = .ok (.iaload, 1) := by decide +kernel
theorem dL_isTold_27 : decode cL_isTold 27 = .ok (.invokestatic 34, 3) := by decide +kernel
theorem dL_isTold_30 : decode cL_isTold 30 = .ok (.istore 10, 2) := by decide +kernel
theorem dL_isTold_32 : decode cL_isTold 32 = .ok (.iload 8, 2) := by decide +kernel
theorem dL_isTold_34 : decode cL_isTold 34 = .ok (.sipush 401, 3) := by decide +kernel
theorem dL_isTold_37 : decode cL_isTold 37 = .ok (.irem, 1) := by decide +kernel
theorem dL_isTold_38 : decode cL_isTold 38 = .ok (.sipush 200, 3) := by decide +kernel
theorem dL_isTold_41 : decode cL_isTold 41 = .ok (.isub, 1) := by decide +kernel
theorem dL_isTold_42 : decode cL_isTold 42 = .ok (.istore 11, 2) := by decide +kernel
theorem dL_isTold_44 : decode cL_isTold 44 = .ok (.aload_n 0, 1) := by decide +kernel
theorem dL_isTold_45 : decode cL_isTold 45 = .ok (.iload 7, 2) := by decide +kernel
theorem dL_isTold_47 : decode cL_isTold 47 = .ok (.invokevirtual 55, 3) := by decide +kernel
theorem dL_isTold_50 : decode cL_isTold 50 = .ok (.iload 10, 2) := by decide +kernel
theorem dL_isTold_52 : decode cL_isTold 52 = .ok (.if_icmp .ne 107, 3) := by decide +kernel
theorem dL_isTold_55 : decode cL_isTold 55 = .ok (.aload_n 0, 1) := by decide +kernel
theorem dL_isTold_56 : decode cL_isTold 56 = .ok (.iload 7, 2) := by decide +kernel
theorem dL_isTold_58 : decode cL_isTold 58 = .ok (.invokevirtual 60, 3) := by decide +kernel
theorem dL_isTold_61 : decode cL_isTold 61 = .ok (.aload_n 1, 1) := by decide +kernel
theorem dL_isTold_62 : decode cL_isTold 62 = .ok (.aload_n 2, 1) := by decide +kernel
theorem dL_isTold_63 : decode cL_isTold 63 = .ok (.aload 6, 2) := by decide +kernel
theorem dL_isTold_65 : decode cL_isTold 65 = .ok (.iload 9, 2) := by decide +kernel
theorem dL_isTold_67 : decode cL_isTold 67 = .ok (.aload 5, 2) := by decide +kernel
theorem dL_isTold_69 : decode cL_isTold 69 = .ok (.iload 7, 2) := by decide +kernel
theorem dL_isTold_71 : decode cL_isTold 71 = .ok (.iaload, 1) := by decide +kernel
theorem dL_isTold_72 : decode cL_isTold 72 = .ok (.invokestatic 38, 3) := by decide +kernel
theorem dL_isTold_75 : decode cL_isTold 75 = .ok (.if_icmp .ne 84, 3) := by decide +kernel
theorem dL_isTold_78 : decode cL_isTold 78 = .ok (.aload_n 0, 1) := by decide +kernel
theorem dL_isTold_79 : decode cL_isTold 79 = .ok (.iload 7, 2) := by decide +kernel
theorem dL_isTold_81 : decode cL_isTold 81 = .ok (.invokevirtual 63, 3) := by decide +kernel
theorem dL_isTold_84 : decode cL_isTold 84 = .ok (.aload_n 1, 1) := by decide +kernel
theorem dL_isTold_85 : decode cL_isTold 85 = .ok (.aload_n 2, 1) := by decide +kernel
theorem dL_isTold_86 : decode cL_isTold 86 = .ok (.aload 6, 2) := by decide +kernel
theorem dL_isTold_88 : decode cL_isTold 88 = .ok (.iload 9, 2) := by decide +kernel
theorem dL_isTold_90 : decode cL_isTold 90 = .ok (.aload 5, 2) := by decide +kernel
theorem dL_isTold_92 : decode cL_isTold 92 = .ok (.iload 7, 2) := by decide +kernel
theorem dL_isTold_94 : decode cL_isTold 94 = .ok (.iaload, 1) := by decide +kernel
theorem dL_isTold_95 : decode cL_isTold 95 = .ok (.invokestatic 49, 3) := by decide +kernel
theorem dL_isTold_98 : decode cL_isTold 98 = .ok (.if_icmp .ne 61, 3) := by decide +kernel
theorem dL_isTold_101 : decode cL_isTold 101 = .ok (.aload_n 0, 1) := by decide +kernel
theorem dL_isTold_102 : decode cL_isTold 102 = .ok (.iload 7, 2) := by decide +kernel
theorem dL_isTold_104 : decode cL_isTold 104 = .ok (.iload 11, 2) := by decide +kernel
theorem dL_isTold_106 : decode cL_isTold 106 = .ok (.invokevirtual 65, 3) := by decide +kernel
theorem dL_isTold_109 : decode cL_isTold 109 = .ok (.aload_n 1, 1) := by decide +kernel
theorem dL_isTold_110 : decode cL_isTold 110 = .ok (.aload_n 2, 1) := by decide +kernel
theorem dL_isTold_111 : decode cL_isTold 111 = .ok (.aload 6, 2) := by decide +kernel
theorem dL_isTold_113 : decode cL_isTold 113 = .ok (.iload 9, 2) := by decide +kernel
theorem dL_isTold_115 : decode cL_isTold 115 = .ok (.aload 5, 2) := by decide +kernel
theorem dL_isTold_117 : decode cL_isTold 117 = .ok (.iload 7, 2) := by decide +kernel
theorem dL_isTold_119 : decode cL_isTold 119 = .ok (.iaload, 1) := by decide +kernel
theorem dL_isTold_120 : decode cL_isTold 120 = .ok (.iload 11, 2) := by decide +kernel
theorem dL_isTold_122 : decode cL_isTold 122 = .ok (.invokestatic 30, 3) := by decide +kernel
theorem dL_isTold_125 : decode cL_isTold 125 = .ok (.if_icmp .ne 34, 3) := by decide +kernel
theorem dL_isTold_128 : decode cL_isTold 128 = .ok (.aload_n 0, 1) := by decide +kernel
theorem dL_isTold_129 : decode cL_isTold 129 = .ok (.iload 7, 2) := by decide +kernel
theorem dL_isTold_131 : decode cL_isTold 131 = .ok (.iload 10, 2) := by decide +kernel
theorem dL_isTold_133 : decode cL_isTold 133 = .ok (.invokevirtual 65, 3) := by decide +kernel
theorem dL_isTold_136 : decode cL_isTold 136 = .ok (.aload_n 1, 1) := by decide +kernel
theorem dL_isTold_137 : decode cL_isTold 137 = .ok (.aload_n 2, 1) := by decide +kernel
theorem dL_isTold_138 : decode cL_isTold 138 = .ok (.aload 6, 2) := by decide +kernel
theorem dL_isTold_140 : decode cL_isTold 140 = .ok (.iload 9, 2) := by decide +kernel
theorem dL_isTold_142 : decode cL_isTold 142 = .ok (.aload 5, 2) := by decide +kernel
theorem dL_isTold_144 : decode cL_isTold 144 = .ok (.iload 7, 2) := by decide +kernel
theorem dL_isTold_146 : decode cL_isTold 146 = .ok (.iaload, 1) := by decide +kernel
theorem dL_isTold_147 : decode cL_isTold 147 = .ok (.iload 10, 2) := by decide +kernel
theorem dL_isTold_149 : decode cL_isTold 149 = .ok (.invokestatic 30, 3) := by decide +kernel
theorem dL_isTold_152 : decode cL_isTold 152 = .ok (.if_icmp .ne 7, 3) := by decide +kernel
theorem dL_isTold_155 : decode cL_isTold 155 = .ok (.iconst 1, 1) := by decide +kernel
theorem dL_isTold_156 : decode cL_isTold 156 = .ok (.goto 4, 3) := by decide +kernel
theorem dL_isTold_159 : decode cL_isTold 159 = .ok (.iconst 0, 1) := by decide +kernel
theorem dL_isTold_160 : decode cL_isTold 160 = .ok (.istore 12, 2) := by decide +kernel
theorem dL_isTold_162 : decode cL_isTold 162 = .ok (.iconst 0, 1) := by decide +kernel
theorem dL_isTold_163 : decode cL_isTold 163 = .ok (.istore 13, 2) := by decide +kernel
theorem dL_isTold_165 : decode cL_isTold 165 = .ok (.iload 13, 2) := by decide +kernel
theorem dL_isTold_167 : decode cL_isTold 167 = .ok (.aload 6, 2) := by decide +kernel
theorem dL_isTold_169 : decode cL_isTold 169 = .ok (.iconst 1, 1) := by decide +kernel
theorem dL_isTold_170 : decode cL_isTold 170 = .ok (.iaload, 1) := by decide +kernel
theorem dL_isTold_171 : decode cL_isTold 171 = .ok (.if_icmp .ge 65, 3) := by decide +kernel
theorem dL_isTold_174 : decode cL_isTold 174 = .ok (.iload 12, 2) := by decide +kernel
theorem dL_isTold_176 : decode cL_isTold 176 = .ok (.ifCond .eq 60, 3) := by decide +kernel
theorem dL_isTold_179 : decode cL_isTold 179 = .ok (.aload_n 0, 1) := by decide +kernel
theorem dL_isTold_180 : decode cL_isTold 180 = .ok (.iload 13, 2) := by decide +kernel
theorem dL_isTold_182 : decode cL_isTold 182 = .ok (.iload 7, 2) := by decide +kernel
theorem dL_isTold_184 : decode cL_isTold 184 = .ok (.invokevirtual 68, 3) := by decide +kernel
theorem dL_isTold_187 : decode cL_isTold 187 = .ok (.aload_n 1, 1) := by decide +kernel
theorem dL_isTold_188 : decode cL_isTold 188 = .ok (.aload_n 2, 1) := by decide +kernel
theorem dL_isTold_189 : decode cL_isTold 189 = .ok (.iload 13, 2) := by decide +kernel
theorem dL_isTold_191 : decode cL_isTold 191 = .ok (.iload 9, 2) := by decide +kernel
theorem dL_isTold_193 : decode cL_isTold 193 = .ok (.iload 10, 2) := by decide +kernel
theorem dL_isTold_195 : decode cL_isTold 195 = .ok (.invokestatic 23, 3) := by decide +kernel
theorem dL_isTold_198 : decode cL_isTold 198 = .ok (.if_icmp .ne 29, 3) := by decide +kernel
theorem dL_isTold_201 : decode cL_isTold 201 = .ok (.aload_n 0, 1) := by decide +kernel
theorem dL_isTold_202 : decode cL_isTold 202 = .ok (.iload 13, 2) := by decide +kernel
theorem dL_isTold_204 : decode cL_isTold 204 = .ok (.iload 7, 2) := by decide +kernel
theorem dL_isTold_206 : decode cL_isTold 206 = .ok (.invokevirtual 70, 3) := by decide +kernel
theorem dL_isTold_209 : decode cL_isTold 209 = .ok (.aload_n 1, 1) := by decide +kernel
theorem dL_isTold_210 : decode cL_isTold 210 = .ok (.aload_n 2, 1) := by decide +kernel
theorem dL_isTold_211 : decode cL_isTold 211 = .ok (.iload 13, 2) := by decide +kernel
theorem dL_isTold_213 : decode cL_isTold 213 = .ok (.iload 9, 2) := by decide +kernel
theorem dL_isTold_215 : decode cL_isTold 215 = .ok (.iload 10, 2) := by decide +kernel
theorem dL_isTold_217 : decode cL_isTold 217 = .ok (.invokestatic 27, 3) := by decide +kernel
theorem dL_isTold_220 : decode cL_isTold 220 = .ok (.if_icmp .ne 7, 3) := by decide +kernel
theorem dL_isTold_223 : decode cL_isTold 223 = .ok (.iconst 1, 1) := by decide +kernel
theorem dL_isTold_224 : decode cL_isTold 224 = .ok (.goto 4, 3) := by decide +kernel
theorem dL_isTold_227 : decode cL_isTold 227 = .ok (.iconst 0, 1) := by decide +kernel
theorem dL_isTold_228 : decode cL_isTold 228 = .ok (.istore 12, 2) := by decide +kernel
theorem dL_isTold_230 : decode cL_isTold 230 = .ok (.iinc 13 1, 3) := by decide +kernel
theorem dL_isTold_233 : decode cL_isTold 233 = .ok (.goto (-68), 3) := by decide +kernel
theorem dL_isTold_236 : decode cL_isTold 236 = .ok (.iconst 0, 1) := by decide +kernel
theorem dL_isTold_237 : decode cL_isTold 237 = .ok (.istore 13, 2) := by decide +kernel
theorem dL_isTold_239 : decode cL_isTold 239 = .ok (.iload 13, 2) := by decide +kernel
theorem dL_isTold_241 : decode cL_isTold 241 = .ok (.aload 6, 2) := by decide +kernel
theorem dL_isTold_243 : decode cL_isTold 243 = .ok (.iconst 0, 1) := by decide +kernel
theorem dL_isTold_244 : decode cL_isTold 244 = .ok (.iaload, 1) := by decide +kernel
theorem dL_isTold_245 : decode cL_isTold 245 = .ok (.if_icmp .ge 45, 3) := by decide +kernel
theorem dL_isTold_248 : decode cL_isTold 248 = .ok (.iload 12, 2) := by decide +kernel
theorem dL_isTold_250 : decode cL_isTold 250 = .ok (.ifCond .eq 40, 3) := by decide +kernel
theorem dL_isTold_253 : decode cL_isTold 253 = .ok (.aload_n 0, 1) := by decide +kernel
theorem dL_isTold_254 : decode cL_isTold 254 = .ok (.iload 13, 2) := by decide +kernel
theorem dL_isTold_256 : decode cL_isTold 256 = .ok (.iload 7, 2) := by decide +kernel
theorem dL_isTold_258 : decode cL_isTold 258 = .ok (.invokevirtual 72, 3) := by decide +kernel
theorem dL_isTold_261 : decode cL_isTold 261 = .ok (.aload_n 1, 1) := by decide +kernel
theorem dL_isTold_262 : decode cL_isTold 262 = .ok (.aload_n 2, 1) := by decide +kernel
theorem dL_isTold_263 : decode cL_isTold 263 = .ok (.aload 6, 2) := by decide +kernel
theorem dL_isTold_265 : decode cL_isTold 265 = .ok (.iload 9, 2) := by decide +kernel
theorem dL_isTold_267 : decode cL_isTold 267 = .ok (.iload 10, 2) := by decide +kernel
theorem dL_isTold_269 : decode cL_isTold 269 = .ok (.iload 13, 2) := by decide +kernel
theorem dL_isTold_271 : decode cL_isTold 271 = .ok (.invokestatic 46, 3) := by decide +kernel
theorem dL_isTold_274 : decode cL_isTold 274 = .ok (.if_icmp .ne 7, 3) := by decide +kernel
theorem dL_isTold_277 : decode cL_isTold 277 = .ok (.iconst 1, 1) := by decide +kernel
theorem dL_isTold_278 : decode cL_isTold 278 = .ok (.goto 4, 3) := by decide +kernel
theorem dL_isTold_281 : decode cL_isTold 281 = .ok (.iconst 0, 1) := by decide +kernel
theorem dL_isTold_282 : decode cL_isTold 282 = .ok (.istore 12, 2) := by decide +kernel
theorem dL_isTold_284 : decode cL_isTold 284 = .ok (.iinc 13 1, 3) := by decide +kernel
theorem dL_isTold_287 : decode cL_isTold 287 = .ok (.goto (-48), 3) := by decide +kernel
theorem dL_isTold_290 : decode cL_isTold 290 = .ok (.iload 12, 2) := by decide +kernel
theorem dL_isTold_292 : decode cL_isTold 292 = .ok (.ireturn, 1) := by decide +kernel
set_option maxRecDepth 20000 in
theorem ggL_arePlans_L_isSafe : GoodIn wsL_arePlans wsL_isSafe := goodIn_r _ [4, 5, 6, 7, 8, 3, 9, 10, 11, 12, 13, 14, 15, 16, 17, 18, 19, 20, 21, 22, 23, 24, 25, 26, 27, 28, 29, 30, 31, 32] (by decide +kernel) (by decide +kernel)
set_option maxRecDepth 20000 in
theorem gL_arePlans_L_isSafe : GoodIn wsL_arePlans (va_wsS RL 49 yL_isSafe wsL_isSafe) := goodIn_app (goodIn_of _ (by decide +kernel)) ggL_arePlans_L_isSafe
set_option maxRecDepth 20000 in
theorem ggL_arePlans_X0_plan : GoodIn wsL_arePlans wsX0_plan := goodIn_ca (goodIn_ca (goodIn_r _ [37, 38, 39, 40, 41, 42, 43, 44, 45, 46, 47, 36, 48, 49, 50, 51, 52, 53, 54, 55, 56, 57, 58, 59, 60, 61, 62, 63, 64, 65, 66, 67, 68, 69, 70, 71, 72, 73, 74, 75, 76, 77, 78, 79, 80, 81, 82, 83, 84, 85, 86, 87, 88, 89, 90, 91, 92, 93, 94, 95, 96, 97, 98, 99, 100, 101, 102, 103, 104, 105, 106, 107, 108, 109, 110, 111, 112, 113, 114, 115, 116, 117, 118, 119, 120, 121, 122, 123, 124, 125, 137, 138, 139, 140, 141, 142, 143, 144, 145, 146, 147, 148, 149, 150, 151] (by decide +kernel) (by decide +kernel)) (goodIn_sub (fun _ h => List.mem_cons_of_mem _ (List.mem_append_left _ (List.mem_append_right _ h))) (by decide +kernel))) (goodIn_sub (fun _ h => List.mem_cons_of_mem _ (List.mem_append_right _ h)) (by decide +kernel))
set_option maxRecDepth 20000 in
theorem gL_arePlans_X0_plan : GoodIn wsL_arePlans (wsV RL 74 RX0 yX0_plan wsX0_plan) := goodIn_app (goodIn_of _ (by decide +kernel)) ggL_arePlans_X0_plan
set_option maxRecDepth 20000 in
theorem ggL_arePlans_L_plan : GoodIn wsL_arePlans wsL_plan := goodIn_r _ [128, 129, 1, 2, 3, 4, 5, 6, 7, 8, 9, 10, 11, 12, 13, 14, 15, 16, 17, 18, 19, 20, 21, 22, 23, 24, 25, 26, 27, 28, 29, 30, 31, 32, 130, 131, 132] (by decide +kernel) (by decide +kernel)
set_option maxRecDepth 20000 in
theorem gL_arePlans_L_plan : GoodIn wsL_arePlans (va_wsS RL 77 yL_plan wsL_plan) := goodIn_app (goodIn_of _ (by decide +kernel)) ggL_arePlans_L_plan
set_option maxRecDepth 20000 in
theorem ggL_arePlans_X0_firstUnsafe : GoodIn wsL_arePlans wsX0_firstUnsafe := goodIn_ca (goodIn_r _ [136, 46, 47, 36, 48, 49, 50, 55, 56, 57, 58, 59, 60, 61, 62, 63, 64, 65, 66, 67, 68, 69, 70, 71, 72, 73, 74, 75, 76, 77, 78, 79, 80, 81, 82, 83, 84, 85, 86, 87, 88, 89, 90, 91, 92, 93, 40, 94, 95, 96, 97, 98, 99, 100, 101, 102, 103, 104, 105, 106, 107, 108, 109, 110, 111, 112, 113, 114, 115, 116, 117, 118, 119, 120, 121, 137, 138, 139, 140, 141, 142, 143, 144, 145, 146, 147, 148, 149, 150, 151] (by decide +kernel) (by decide +kernel)) (goodIn_sub (fun _ h => List.mem_cons_of_mem _ (List.mem_append_right _ h)) (by decide +kernel))
set_option maxRecDepth 20000 in
theorem gL_arePlans_X0_firstUnsafe : GoodIn wsL_arePlans (wsV RL 80 RX0 yX0_firstUnsafe wsX0_firstUnsafe) := goodIn_app (goodIn_of _ (by decide +kernel)) ggL_arePlans_X0_firstUnsafe
theorem dL_arePlans_0 : decode cL_arePlans 0 = .ok (.iload 7, 2) := by decide +kernel
theorem dL_arePlans_2 : decode cL_arePlans 2 = .ok (.bipush 48, 2) := by decide +kernel
theorem dL_arePlans_4 : decode cL_arePlans 4 = .ok (.irem, 1) := by decide +kernel
theorem dL_arePlans_5 : decode cL_arePlans 5 = .ok (.istore 8, 2) := by decide +kernel
theorem dL_arePlans_7 : decode cL_arePlans 7 = .ok (.iload 8, 2) := by decide +kernel
theorem dL_arePlans_9 : decode cL_arePlans 9 = .ok (.iload 7, 2) := by decide +kernel
theorem dL_arePlans_11 : decode cL_arePlans 11 = .ok (.bipush 48, 2) := by decide +kernel
theorem dL_arePlans_13 : decode cL_arePlans 13 = .ok (.idiv, 1) := by decide +kernel
theorem dL_arePlans_14 : decode cL_arePlans 14 = .ok (.bipush 48, 2) := by decide +kernel
theorem dL_arePlans_16 : decode cL_arePlans 16 = .ok (.iload 8, 2) := by decide +kernel
theorem dL_arePlans_18 : decode cL_arePlans 18 = .ok (.isub, 1) := by decide +kernel
theorem dL_arePlans_19 : decode cL_arePlans 19 = .ok (.irem, 1) := by decide +kernel
theorem dL_arePlans_20 : decode cL_arePlans 20 = .ok (.iadd, 1) := by decide +kernel
theorem dL_arePlans_21 : decode cL_arePlans 21 = .ok (.istore 9, 2) := by decide +kernel
theorem dL_arePlans_23 : decode cL_arePlans 23 = .ok (.iconst (-1), 1) := by decide +kernel
theorem dL_arePlans_24 : decode cL_arePlans 24 = .ok (.istore 10, 2) := by decide +kernel
theorem dL_arePlans_26 : decode cL_arePlans 26 = .ok (.bipush 47, 2) := by decide +kernel
theorem dL_arePlans_28 : decode cL_arePlans 28 = .ok (.istore 11, 2) := by decide +kernel
theorem dL_arePlans_30 : decode cL_arePlans 30 = .ok (.iload 11, 2) := by decide +kernel
theorem dL_arePlans_32 : decode cL_arePlans 32 = .ok (.iload 8, 2) := by decide +kernel
theorem dL_arePlans_34 : decode cL_arePlans 34 = .ok (.if_icmp .lt 47, 3) := by decide +kernel
theorem dL_arePlans_37 : decode cL_arePlans 37 = .ok (.aload_n 1, 1) := by decide +kernel
theorem dL_arePlans_38 : decode cL_arePlans 38 = .ok (.aload_n 2, 1) := by decide +kernel
theorem dL_arePlans_39 : decode cL_arePlans 39 = .ok (.aload 6, 2) := by decide +kernel
theorem dL_arePlans_41 : decode cL_arePlans 41 = .ok (.sipush 300, 3) := by decide +kernel
theorem dL_arePlans_44 : decode cL_arePlans 44 = .ok (.aload_n 3, 1) := by decide +kernel
theorem dL_arePlans_45 : decode cL_arePlans 45 = .ok (.iload 11, 2) := by decide +kernel
theorem dL_arePlans_47 : decode cL_arePlans 47 = .ok (.iaload, 1) := by decide +kernel
theorem dL_arePlans_48 : decode cL_arePlans 48 = .ok (.iadd, 1) := by decide +kernel
theorem dL_arePlans_49 : decode cL_arePlans 49 = .ok (.aload 4, 2) := by decide +kernel
theorem dL_arePlans_51 : decode cL_arePlans 51 = .ok (.iload 11, 2) := by decide +kernel
theorem dL_arePlans_53 : decode cL_arePlans 53 = .ok (.iaload, 1) := by decide +kernel
theorem dL_arePlans_54 : decode cL_arePlans 54 = .ok (.iadd, 1) := by decide +kernel
theorem dL_arePlans_55 : decode cL_arePlans 55 = .ok (.aload 5, 2) := by decide +kernel
theorem dL_arePlans_57 : decode cL_arePlans 57 = .ok (.iload 11, 2) := by decide +kernel
theorem dL_arePlans_59 : decode cL_arePlans 59 = .ok (.iaload, 1) := by decide +kernel
theorem dL_arePlans_60 : decode cL_arePlans 60 = .ok (.invokestatic 49, 3) := by decide +kernel
theorem dL_arePlans_63 : decode cL_arePlans 63 = .ok (.ifCond .eq 8, 3) := by decide +kernel
theorem dL_arePlans_66 : decode cL_arePlans 66 = .ok (.iload 10, 2) := by decide +kernel
theorem dL_arePlans_68 : decode cL_arePlans 68 = .ok (.goto 5, 3) := by decide +kernel
theorem dL_arePlans_71 : decode cL_arePlans 71 = .ok (.iload 11, 2) := by decide +kernel
theorem dL_arePlans_73 : decode cL_arePlans 73 = .ok (.istore 10, 2) := by decide +kernel
theorem dL_arePlans_75 : decode cL_arePlans 75 = .ok (.iinc 11 (-1), 3) := by decide +kernel
theorem dL_arePlans_78 : decode cL_arePlans 78 = .ok (.goto (-48), 3) := by decide +kernel
theorem dL_arePlans_81 : decode cL_arePlans 81 = .ok (.aload_n 0, 1) := by decide +kernel
theorem dL_arePlans_82 : decode cL_arePlans 82 = .ok (.iload 8, 2) := by decide +kernel
theorem dL_arePlans_84 : decode cL_arePlans 84 = .ok (.iload 9, 2) := by decide +kernel
theorem dL_arePlans_86 : decode cL_arePlans 86 = .ok (.invokevirtual 74, 3) := by decide +kernel
theorem dL_arePlans_89 : decode cL_arePlans 89 = .ok (.aload_n 1, 1) := by decide +kernel
theorem dL_arePlans_90 : decode cL_arePlans 90 = .ok (.aload_n 2, 1) := by decide +kernel
theorem dL_arePlans_91 : decode cL_arePlans 91 = .ok (.aload_n 3, 1) := by decide +kernel
theorem dL_arePlans_92 : decode cL_arePlans 92 = .ok (.aload 4, 2) := by decide +kernel
theorem dL_arePlans_94 : decode cL_arePlans 94 = .ok (.aload 5, 2) := by decide +kernel
theorem dL_arePlans_96 : decode cL_arePlans 96 = .ok (.aload 6, 2) := by decide +kernel
theorem dL_arePlans_98 : decode cL_arePlans 98 = .ok (.iload 8, 2) := by decide +kernel
theorem dL_arePlans_100 : decode cL_arePlans 100 = .ok (.iload 9, 2) := by decide +kernel
theorem dL_arePlans_102 : decode cL_arePlans 102 = .ok (.invokestatic 77, 3) := by decide +kernel
theorem dL_arePlans_105 : decode cL_arePlans 105 = .ok (.if_icmp .ne 18, 3) := by decide +kernel
theorem dL_arePlans_108 : decode cL_arePlans 108 = .ok (.aload_n 0, 1) := by decide +kernel
theorem dL_arePlans_109 : decode cL_arePlans 109 = .ok (.iload 8, 2) := by decide +kernel
theorem dL_arePlans_111 : decode cL_arePlans 111 = .ok (.invokevirtual 80, 3) := by decide +kernel
theorem dL_arePlans_114 : decode cL_arePlans 114 = .ok (.iload 10, 2) := by decide +kernel
theorem dL_arePlans_116 : decode cL_arePlans 116 = .ok (.if_icmp .ne 7, 3) := by decide +kernel
theorem dL_arePlans_119 : decode cL_arePlans 119 = .ok (.iconst 1, 1) := by decide +kernel
theorem dL_arePlans_120 : decode cL_arePlans 120 = .ok (.goto 4, 3) := by decide +kernel
theorem dL_arePlans_123 : decode cL_arePlans 123 = .ok (.iconst 0, 1) := by decide +kernel
theorem dL_arePlans_124 : decode cL_arePlans 124 = .ok (.ireturn, 1) := by decide +kernel
set_option maxRecDepth 20000 in
theorem ggL_tend_X0_tend : GoodIn wsL_tend wsX0_tend := goodIn_ca (goodIn_ca (goodIn_ca (goodIn_r _ [6, 7, 8, 9, 10, 11, 12, 13, 14, 15, 16, 17, 5, 18, 19, 20, 21, 22, 23, 24, 25, 26, 27, 28, 29, 30, 31, 32, 33, 34, 35, 36, 37, 38, 39, 40, 41, 42, 43, 44, 45, 46, 47, 48, 49, 50, 51, 52, 53, 54, 55, 56, 57, 58, 59, 60, 61, 62, 63, 64, 65, 66, 67, 68, 69, 70, 71, 72, 73, 74, 75, 76, 77, 78, 79, 80, 81] (by decide +kernel) (by decide +kernel)) (goodIn_sub (fun _ h => List.mem_cons_of_mem _ (List.mem_append_left _ (List.mem_append_left _ (List.mem_append_right _ h)))) (by decide +kernel))) (goodIn_sub (fun _ h => List.mem_cons_of_mem _ (List.mem_append_left _ (List.mem_append_right _ h))) (by decide +kernel))) (goodIn_sub (fun _ h => List.mem_cons_of_mem _ (List.mem_append_right _ h)) (by decide +kernel))
set_option maxRecDepth 20000 in
theorem gL_tend_X0_tend : GoodIn wsL_tend (wsV RL 83 RX0 yX0_tend wsX0_tend) := goodIn_app (goodIn_of _ (by decide +kernel)) ggL_tend_X0_tend
theorem dL_tend_0 : decode cL_tend 0 = .ok (.aload_n 0, 1) := by decide +kernel
theorem dL_tend_1 : decode cL_tend 1 = .ok (.iload_n 1, 1) := by decide +kernel
theorem dL_tend_2 : decode cL_tend 2 = .ok (.iload_n 2, 1) := by decide +kernel
theorem dL_tend_3 : decode cL_tend 3 = .ok (.iload_n 3, 1) := by decide +kernel
theorem dL_tend_4 : decode cL_tend 4 = .ok (.invokevirtual 83, 3) := by decide +kernel
theorem dL_tend_7 : decode cL_tend 7 = .ok (.ireturn, 1) := by decide +kernel
theorem dL_tend_8 : decode cL_tend 8 = .ok (.astore 4, 2) := by decide +kernel
theorem dL_tend_10 : decode cL_tend 10 = .ok (.bipush (-5), 2) := by decide +kernel
theorem dL_tend_12 : decode cL_tend 12 = .ok (.ireturn, 1) := by decide +kernel
set_option maxRecDepth 20000 in
theorem ggL_acts_X0_addBollard : GoodIn wsL_acts wsX0_addBollard := goodIn_ca (goodIn_ca (goodIn_r _ [9, 10, 11, 12, 13, 14, 15, 16, 17, 8, 18, 19, 20, 146, 147, 148, 149, 150, 151, 152, 153, 154, 155, 156, 157, 158, 159, 160] (by decide +kernel) (by decide +kernel)) (goodIn_sub (fun _ h => List.mem_cons_of_mem _ (List.mem_append_left _ (List.mem_append_left _ (List.mem_append_right _ h)))) (by decide +kernel))) (goodIn_sub (fun _ h => List.mem_cons_of_mem _ (List.mem_append_left _ (List.mem_append_right _ h))) (by decide +kernel))
set_option maxRecDepth 20000 in
theorem gL_acts_X0_addBollard : GoodIn wsL_acts (wsV RL 90 RX0 yX0_addBollard wsX0_addBollard) := goodIn_app (goodIn_of _ (by decide +kernel)) ggL_acts_X0_addBollard
set_option maxRecDepth 20000 in
theorem ggL_acts_L_length : GoodIn wsL_acts wsL_length := goodIn_r _ [24, 25, 26, 23, 27, 28, 29, 30, 31, 32] (by decide +kernel) (by decide +kernel)
set_option maxRecDepth 20000 in
theorem gL_acts_L_length : GoodIn wsL_acts (va_wsS RL 23 yL_length wsL_length) := goodIn_app (goodIn_of _ (by decide +kernel)) ggL_acts_L_length
set_option maxRecDepth 20000 in
theorem ggL_acts_X0_addLine : GoodIn wsL_acts wsX0_addLine := goodIn_ca (goodIn_ca (goodIn_ca (goodIn_r _ [36, 10, 11, 12, 37, 14, 38, 39, 40, 41, 42, 43, 44, 45, 46, 8, 47, 48, 49, 13, 16, 17, 18, 19, 20, 50, 51, 52, 146, 147, 148, 149, 150, 151, 152, 153, 154, 155, 156, 157, 158, 159, 160] (by decide +kernel) (by decide +kernel)) (goodIn_sub (fun _ h => List.mem_cons_of_mem _ (List.mem_append_left _ (List.mem_append_left _ (List.mem_append_right _ h)))) (by decide +kernel))) (goodIn_sub (fun _ h => List.mem_cons_of_mem _ (List.mem_append_right _ h)) (by decide +kernel))) (goodIn_sub (fun _ h => List.mem_cons_of_mem _ (List.mem_append_left _ (List.mem_append_right _ h))) (by decide +kernel))
set_option maxRecDepth 20000 in
theorem gL_acts_X0_addLine : GoodIn wsL_acts (wsV RL 94 RX0 yX0_addLine wsX0_addLine) := goodIn_app (goodIn_of _ (by decide +kernel)) ggL_acts_X0_addLine
set_option maxRecDepth 20000 in
theorem ggL_acts_X0_setTide : GoodIn wsL_acts wsX0_setTide := goodIn_ca (goodIn_ca (goodIn_r _ [56, 57, 58, 59, 8, 60, 48, 49, 16, 17, 18, 19, 20, 146, 147, 148, 149, 150, 151, 152, 153, 154, 155, 156, 157, 158, 159, 160] (by decide +kernel) (by decide +kernel)) (goodIn_sub (fun _ h => List.mem_cons_of_mem _ (List.mem_append_right _ h)) (by decide +kernel))) (goodIn_sub (fun _ h => List.mem_cons_of_mem _ (List.mem_append_left _ (List.mem_append_right _ h))) (by decide +kernel))
set_option maxRecDepth 20000 in
theorem gL_acts_X0_setTide : GoodIn wsL_acts (wsV RL 98 RX0 yX0_setTide wsX0_setTide) := goodIn_app (goodIn_of _ (by decide +kernel)) ggL_acts_X0_setTide
set_option maxRecDepth 20000 in
theorem ggL_acts_X0_setLoad : GoodIn wsL_acts wsX0_setLoad := goodIn_ca (goodIn_ca (goodIn_r _ [64, 65, 58, 59, 8, 60, 48, 49, 16, 17, 18, 19, 20, 146, 147, 148, 149, 150, 151, 152, 153, 154, 155, 156, 157, 158, 159, 160] (by decide +kernel) (by decide +kernel)) (goodIn_sub (fun _ h => List.mem_cons_of_mem _ (List.mem_append_right _ h)) (by decide +kernel))) (goodIn_sub (fun _ h => List.mem_cons_of_mem _ (List.mem_append_left _ (List.mem_append_right _ h))) (by decide +kernel))
set_option maxRecDepth 20000 in
theorem gL_acts_X0_setLoad : GoodIn wsL_acts (wsV RL 101 RX0 yX0_setLoad wsX0_setLoad) := goodIn_app (goodIn_of _ (by decide +kernel)) ggL_acts_X0_setLoad
set_option maxRecDepth 20000 in
theorem ggL_acts_X0_setWind : GoodIn wsL_acts wsX0_setWind := goodIn_ca (goodIn_r _ [69, 70, 12, 71, 16, 17, 8, 18, 19, 20, 146, 147, 148, 149, 150, 151, 152, 153, 154, 155, 156, 157, 158, 159, 160] (by decide +kernel) (by decide +kernel)) (goodIn_sub (fun _ h => List.mem_cons_of_mem _ (List.mem_append_left _ (List.mem_append_right _ h))) (by decide +kernel))
set_option maxRecDepth 20000 in
theorem gL_acts_X0_setWind : GoodIn wsL_acts (wsV RL 106 RX0 yX0_setWind wsX0_setWind) := goodIn_app (goodIn_of _ (by decide +kernel)) ggL_acts_X0_setWind
set_option maxRecDepth 20000 in
theorem ggL_acts_X0_setPassing : GoodIn wsL_acts wsX0_setPassing := goodIn_ca (goodIn_ca (goodIn_r _ [75, 70, 12, 76, 58, 59, 8, 60, 48, 49, 16, 17, 18, 19, 20, 146, 147, 148, 149, 150, 151, 152, 153, 154, 155, 156, 157, 158, 159, 160] (by decide +kernel) (by decide +kernel)) (goodIn_sub (fun _ h => List.mem_cons_of_mem _ (List.mem_append_right _ h)) (by decide +kernel))) (goodIn_sub (fun _ h => List.mem_cons_of_mem _ (List.mem_append_left _ (List.mem_append_right _ h))) (by decide +kernel))
set_option maxRecDepth 20000 in
theorem gL_acts_X0_setPassing : GoodIn wsL_acts (wsV RL 109 RX0 yX0_setPassing wsX0_setPassing) := goodIn_app (goodIn_of _ (by decide +kernel)) ggL_acts_X0_setPassing
set_option maxRecDepth 20000 in
theorem ggL_acts_X0_tendAll : GoodIn wsL_acts wsX0_tendAll := goodIn_ca (goodIn_r _ [80, 58, 59, 8, 60, 48, 49, 81, 82, 83, 84, 37, 43, 42, 85, 86, 87, 88, 89, 90, 91, 92, 93, 94, 95, 96, 71, 76, 97, 98, 99, 100, 39, 101, 102, 103, 104, 57, 65, 50, 51, 52, 105, 106, 107, 108, 40, 109, 110, 111, 112, 113, 114, 115, 116, 146, 147, 148, 149, 150, 151, 152, 153, 154, 155, 156, 157, 158, 159, 160] (by decide +kernel) (by decide +kernel)) (goodIn_sub (fun _ h => List.mem_cons_of_mem _ (List.mem_append_right _ h)) (by decide +kernel))
set_option maxRecDepth 20000 in
theorem gL_acts_X0_tendAll : GoodIn wsL_acts (wsV RL 112 RX0 yX0_tendAll wsX0_tendAll) := goodIn_app (goodIn_of _ (by decide +kernel)) ggL_acts_X0_tendAll
