theorem inX1 : ∀ w ∈ wsX10, w ∈ lw_tbl := by decide +kernel
theorem inJ9 : ∀ w ∈ wsJ90, w ∈ lw_tbl := by decide +kernel
theorem inJ0 : ∀ w ∈ wsJ00, w ∈ lw_tbl := by decide +kernel
theorem inJ10 : ∀ w ∈ wsJ100, w ∈ lw_tbl := by decide +kernel
theorem dX0_init_0 : decode cX0_init 0 = .ok (.aload_n 0, 1) := by decide +kernel
theorem dX0_init_1 : decode cX0_init 1 = .ok (.invokespecial 1, 3) := by decide +kernel
theorem dX0_init_4 : decode cX0_init 4 = .ok (.aload_n 0, 1) := by decide +kernel
theorem dX0_init_5 : decode cX0_init 5 = .ok (.bipush 48, 2) := by decide +kernel
theorem dX0_init_7 : decode cX0_init 7 = .ok (.newarray .int, 2) := by decide +kernel
theorem dX0_init_9 : decode cX0_init 9 = .ok (.putfield 9, 3) := by decide +kernel
theorem dX0_init_12 : decode cX0_init 12 = .ok (.aload_n 0, 1) := by decide +kernel
theorem dX0_init_13 : decode cX0_init 13 = .ok (.bipush 48, 2) := by decide +kernel
theorem dX0_init_15 : decode cX0_init 15 = .ok (.newarray .int, 2) := by decide +kernel
theorem dX0_init_17 : decode cX0_init 17 = .ok (.putfield 13, 3) := by decide +kernel
theorem dX0_init_20 : decode cX0_init 20 = .ok (.aload_n 0, 1) := by decide +kernel
theorem dX0_init_21 : decode cX0_init 21 = .ok (.bipush 48, 2) := by decide +kernel
theorem dX0_init_23 : decode cX0_init 23 = .ok (.newarray .int, 2) := by decide +kernel
theorem dX0_init_25 : decode cX0_init 25 = .ok (.putfield 16, 3) := by decide +kernel
theorem dX0_init_28 : decode cX0_init 28 = .ok (.aload_n 0, 1) := by decide +kernel
theorem dX0_init_29 : decode cX0_init 29 = .ok (.iconst 0, 1) := by decide +kernel
theorem dX0_init_30 : decode cX0_init 30 = .ok (.putfield 19, 3) := by decide +kernel
theorem dX0_init_33 : decode cX0_init 33 = .ok (.aload_n 0, 1) := by decide +kernel
theorem dX0_init_34 : decode cX0_init 34 = .ok (.iconst 0, 1) := by decide +kernel
theorem dX0_init_35 : decode cX0_init 35 = .ok (.putfield 23, 3) := by decide +kernel
theorem dX0_init_38 : decode cX0_init 38 = .ok (.aload_n 0, 1) := by decide +kernel
theorem dX0_init_39 : decode cX0_init 39 = .ok (.bipush 6, 2) := by decide +kernel
theorem dX0_init_41 : decode cX0_init 41 = .ok (.newarray .int, 2) := by decide +kernel
theorem dX0_init_43 : decode cX0_init 43 = .ok (.putfield 26, 3) := by decide +kernel
theorem dX0_init_46 : decode cX0_init 46 = .ok (.aload_n 0, 1) := by decide +kernel
theorem dX0_init_47 : decode cX0_init 47 = .ok (.bipush 6, 2) := by decide +kernel
theorem dX0_init_49 : decode cX0_init 49 = .ok (.newarray .int, 2) := by decide +kernel
theorem dX0_init_51 : decode cX0_init 51 = .ok (.putfield 29, 3) := by decide +kernel
theorem dX0_init_54 : decode cX0_init 54 = .ok (.aload_n 0, 1) := by decide +kernel
theorem dX0_init_55 : decode cX0_init 55 = .ok (.iconst 0, 1) := by decide +kernel
theorem dX0_init_56 : decode cX0_init 56 = .ok (.putfield 32, 3) := by decide +kernel
theorem dX0_init_59 : decode cX0_init 59 = .ok (.aload_n 0, 1) := by decide +kernel
theorem dX0_init_60 : decode cX0_init 60 = .ok (.bipush 10, 2) := by decide +kernel
theorem dX0_init_62 : decode cX0_init 62 = .ok (.newarray .int, 2) := by decide +kernel
theorem dX0_init_64 : decode cX0_init 64 = .ok (.putfield 35, 3) := by decide +kernel
theorem dX0_init_67 : decode cX0_init 67 = .ok (.aload_n 0, 1) := by decide +kernel
theorem dX0_init_68 : decode cX0_init 68 = .ok (.bipush 10, 2) := by decide +kernel
theorem dX0_init_70 : decode cX0_init 70 = .ok (.newarray .int, 2) := by decide +kernel
theorem dX0_init_72 : decode cX0_init 72 = .ok (.putfield 38, 3) := by decide +kernel
theorem dX0_init_75 : decode cX0_init 75 = .ok (.aload_n 0, 1) := by decide +kernel
theorem dX0_init_76 : decode cX0_init 76 = .ok (.bipush 10, 2) := by decide +kernel
theorem dX0_init_78 : decode cX0_init 78 = .ok (.newarray .int, 2) := by decide +kernel
theorem dX0_init_80 : decode cX0_init 80 = .ok (.putfield 41, 3) := by decide +kernel
theorem dX0_init_83 : decode cX0_init 83 = .ok (.aload_n 0, 1) := by decide +kernel
theorem dX0_init_84 : decode cX0_init 84 = .ok (.bipush 10, 2) := by decide +kernel
theorem dX0_init_86 : decode cX0_init 86 = .ok (.newarray .int, 2) := by decide +kernel
theorem dX0_init_88 : decode cX0_init 88 = .ok (.putfield 44, 3) := by decide +kernel
theorem dX0_init_91 : decode cX0_init 91 = .ok (.aload_n 0, 1) := by decide +kernel
theorem dX0_init_92 : decode cX0_init 92 = .ok (.bipush 10, 2) := by decide +kernel
theorem dX0_init_94 : decode cX0_init 94 = .ok (.newarray .int, 2) := by decide +kernel
theorem dX0_init_96 : decode cX0_init 96 = .ok (.putfield 47, 3) := by decide +kernel
theorem dX0_init_99 : decode cX0_init 99 = .ok (.aload_n 0, 1) := by decide +kernel
theorem dX0_init_100 : decode cX0_init 100 = .ok (.bipush 10, 2) := by decide +kernel
theorem dX0_init_102 : decode cX0_init 102 = .ok (.newarray .boolean, 2) := by decide +kernel
theorem dX0_init_104 : decode cX0_init 104 = .ok (.putfield 50, 3) := by decide +kernel
theorem dX0_init_107 : decode cX0_init 107 = .ok (.aload_n 0, 1) := by decide +kernel
theorem dX0_init_108 : decode cX0_init 108 = .ok (.bipush 10, 2) := by decide +kernel
theorem dX0_init_110 : decode cX0_init 110 = .ok (.newarray .int, 2) := by decide +kernel
theorem dX0_init_112 : decode cX0_init 112 = .ok (.putfield 54, 3) := by decide +kernel
theorem dX0_init_115 : decode cX0_init 115 = .ok (.return_, 1) := by decide +kernel
set_option maxRecDepth 20000 in
theorem ggX0_addBollard_X0_checkRange : GoodIn wsX0_addBollard wsX0_checkRange := goodIn_ca (goodIn_r _ [10, 11, 12] (by decide +kernel) (by decide +kernel)) (goodIn_sub (fun _ h => List.mem_cons_of_mem _ (List.mem_append_right _ h)) (by decide +kernel))
set_option maxRecDepth 20000 in
theorem gX0_addBollard_X0_checkRange : GoodIn wsX0_addBollard (va_wsS RX0 57 yX0_checkRange wsX0_checkRange) := goodIn_app (goodIn_of _ (by decide +kernel)) ggX0_addBollard_X0_checkRange
theorem dX0_addBollard_0 : decode cX0_addBollard 0 = .ok (.iload_n 1, 1) := by decide +kernel
theorem dX0_addBollard_1 : decode cX0_addBollard 1 = .ok (.sipush (-5000), 3) := by decide +kernel
theorem dX0_addBollard_4 : decode cX0_addBollard 4 = .ok (.sipush 5000, 3) := by decide +kernel
theorem dX0_addBollard_7 : decode cX0_addBollard 7 = .ok (.invokestatic 57, 3) := by decide +kernel
theorem dX0_addBollard_10 : decode cX0_addBollard 10 = .ok (.iload_n 2, 1) := by decide +kernel
theorem dX0_addBollard_11 : decode cX0_addBollard 11 = .ok (.iconst 1, 1) := by decide +kernel
theorem dX0_addBollard_12 : decode cX0_addBollard 12 = .ok (.ldc 61, 2) := by decide +kernel
theorem dX0_addBollard_14 : decode cX0_addBollard 14 = .ok (.invokestatic 57, 3) := by decide +kernel
theorem dX0_addBollard_17 : decode cX0_addBollard 17 = .ok (.aload_n 0, 1) := by decide +kernel
theorem dX0_addBollard_18 : decode cX0_addBollard 18 = .ok (.getfield 23, 3) := by decide +kernel
theorem dX0_addBollard_21 : decode cX0_addBollard 21 = .ok (.bipush 6, 2) := by decide +kernel
theorem dX0_addBollard_23 : decode cX0_addBollard 23 = .ok (.if_icmp .lt 13, 3) := by decide +kernel
theorem dX0_addBollard_26 : decode cX0_addBollard 26 = .ok (.new 62, 3) := by decide +kernel
theorem dX0_addBollard_29 : decode cX0_addBollard 29 = .ok (.dup, 1) := by decide +kernel
theorem dX0_addBollard_30 : decode cX0_addBollard 30 = .ok (.ldc 64, 2) := by decide +kernel
theorem dX0_addBollard_32 : decode cX0_addBollard 32 = .ok (.invokespecial 66, 3) := by decide +kernel
theorem dX0_addBollard_35 : decode cX0_addBollard 35 = .ok (.athrow, 1) := by decide +kernel
theorem dX0_addBollard_36 : decode cX0_addBollard 36 = .ok (.aload_n 0, 1) := by decide +kernel
theorem dX0_addBollard_37 : decode cX0_addBollard 37 = .ok (.getfield 23, 3) := by decide +kernel
theorem dX0_addBollard_40 : decode cX0_addBollard 40 = .ok (.istore_n 3, 1) := by decide +kernel
theorem dX0_addBollard_41 : decode cX0_addBollard 41 = .ok (.aload_n 0, 1) := by decide +kernel
theorem dX0_addBollard_42 : decode cX0_addBollard 42 = .ok (.getfield 26, 3) := by decide +kernel
theorem dX0_addBollard_45 : decode cX0_addBollard 45 = .ok (.iload_n 3, 1) := by decide +kernel
theorem dX0_addBollard_46 : decode cX0_addBollard 46 = .ok (.iload_n 1, 1) := by decide +kernel
theorem dX0_addBollard_47 : decode cX0_addBollard 47 = .ok (.iastore, 1) := by decide +kernel
theorem dX0_addBollard_48 : decode cX0_addBollard 48 = .ok (.aload_n 0, 1) := by decide +kernel
theorem dX0_addBollard_49 : decode cX0_addBollard 49 = .ok (.getfield 29, 3) := by decide +kernel
theorem dX0_addBollard_52 : decode cX0_addBollard 52 = .ok (.iload_n 3, 1) := by decide +kernel
theorem dX0_addBollard_53 : decode cX0_addBollard 53 = .ok (.iload_n 2, 1) := by decide +kernel
theorem dX0_addBollard_54 : decode cX0_addBollard 54 = .ok (.iastore, 1) := by decide +kernel
theorem dX0_addBollard_55 : decode cX0_addBollard 55 = .ok (.aload_n 0, 1) := by decide +kernel
theorem dX0_addBollard_56 : decode cX0_addBollard 56 = .ok (.iload_n 3, 1) := by decide +kernel
theorem dX0_addBollard_57 : decode cX0_addBollard 57 = .ok (.iconst 1, 1) := by decide +kernel
theorem dX0_addBollard_58 : decode cX0_addBollard 58 = .ok (.iadd, 1) := by decide +kernel
theorem dX0_addBollard_59 : decode cX0_addBollard 59 = .ok (.putfield 23, 3) := by decide +kernel
theorem dX0_addBollard_62 : decode cX0_addBollard 62 = .ok (.iload_n 3, 1) := by decide +kernel
theorem dX0_addBollard_63 : decode cX0_addBollard 63 = .ok (.ireturn, 1) := by decide +kernel
set_option maxRecDepth 20000 in
theorem ggX0_addLine_X0_checkBollard : GoodIn wsX0_addLine wsX0_checkBollard := goodIn_ca (goodIn_r _ [16, 17, 18, 19, 28, 29, 30, 31, 32, 33, 34, 35, 36, 37, 38, 39, 40, 41, 42] (by decide +kernel) (by decide +kernel)) (goodIn_sub (fun _ h => List.mem_cons_of_mem _ (List.mem_append_left _ (List.mem_append_right _ h))) (by decide +kernel))
set_option maxRecDepth 20000 in
theorem gX0_addLine_X0_checkBollard : GoodIn wsX0_addLine (wsV RX0 69 RX0 yX0_checkBollard wsX0_checkBollard) := goodIn_app (goodIn_of _ (by decide +kernel)) ggX0_addLine_X0_checkBollard
set_option maxRecDepth 20000 in
theorem ggX0_addLine_X0_checkRange : GoodIn wsX0_addLine wsX0_checkRange := goodIn_ca (goodIn_r _ [22, 23, 24] (by decide +kernel) (by decide +kernel)) (goodIn_sub (fun _ h => List.mem_cons_of_mem _ (List.mem_append_right _ h)) (by decide +kernel))
set_option maxRecDepth 20000 in
theorem gX0_addLine_X0_checkRange : GoodIn wsX0_addLine (va_wsS RX0 57 yX0_checkRange wsX0_checkRange) := goodIn_app (goodIn_of _ (by decide +kernel)) ggX0_addLine_X0_checkRange
set_option maxRecDepth 20000 in
theorem ggX0_addLine_X0_lengthOver : GoodIn wsX0_addLine wsX0_lengthOver := goodIn_r _ [27] (by decide +kernel) (by decide +kernel)
set_option maxRecDepth 20000 in
theorem gX0_addLine_X0_lengthOver : GoodIn wsX0_addLine (va_wsS RX0 75 yX0_lengthOver wsX0_lengthOver) := goodIn_app (goodIn_of _ (by decide +kernel)) ggX0_addLine_X0_lengthOver
theorem dX0_addLine_0 : decode cX0_addLine 0 = .ok (.aload_n 0, 1) := by decide +kernel
theorem dX0_addLine_1 : decode cX0_addLine 1 = .ok (.iload_n 2, 1) := by decide +kernel
theorem dX0_addLine_2 : decode cX0_addLine 2 = .ok (.invokevirtual 69, 3) := by decide +kernel
theorem dX0_addLine_5 : decode cX0_addLine 5 = .ok (.iload_n 1, 1) := by decide +kernel
theorem dX0_addLine_6 : decode cX0_addLine 6 = .ok (.sipush (-5000), 3) := by decide +kernel
theorem dX0_addLine_9 : decode cX0_addLine 9 = .ok (.sipush 5000, 3) := by decide +kernel
theorem dX0_addLine_12 : decode cX0_addLine 12 = .ok (.invokestatic 57, 3) := by decide +kernel
theorem dX0_addLine_15 : decode cX0_addLine 15 = .ok (.iload_n 3, 1) := by decide +kernel
theorem dX0_addLine_16 : decode cX0_addLine 16 = .ok (.iconst 1, 1) := by decide +kernel
theorem dX0_addLine_17 : decode cX0_addLine 17 = .ok (.bipush 100, 2) := by decide +kernel
theorem dX0_addLine_19 : decode cX0_addLine 19 = .ok (.invokestatic 57, 3) := by decide +kernel
theorem dX0_addLine_22 : decode cX0_addLine 22 = .ok (.iload 4, 2) := by decide +kernel
theorem dX0_addLine_24 : decode cX0_addLine 24 = .ok (.iconst 1, 1) := by decide +kernel
theorem dX0_addLine_25 : decode cX0_addLine 25 = .ok (.ldc 61, 2) := by decide +kernel
theorem dX0_addLine_27 : decode cX0_addLine 27 = .ok (.invokestatic 57, 3) := by decide +kernel
theorem dX0_addLine_30 : decode cX0_addLine 30 = .ok (.aload_n 0, 1) := by decide +kernel
theorem dX0_addLine_31 : decode cX0_addLine 31 = .ok (.getfield 32, 3) := by decide +kernel
theorem dX0_addLine_34 : decode cX0_addLine 34 = .ok (.bipush 10, 2) := by decide +kernel
theorem dX0_addLine_36 : decode cX0_addLine 36 = .ok (.if_icmp .lt 13, 3) := by decide +kernel
theorem dX0_addLine_39 : decode cX0_addLine 39 = .ok (.new 62, 3) := by decide +kernel
theorem dX0_addLine_42 : decode cX0_addLine 42 = .ok (.dup, 1) := by decide +kernel
theorem dX0_addLine_43 : decode cX0_addLine 43 = .ok (.ldc 73, 2) := by decide +kernel
theorem dX0_addLine_45 : decode cX0_addLine 45 = .ok (.invokespecial 66, 3) := by decide +kernel
theorem dX0_addLine_48 : decode cX0_addLine 48 = .ok (.athrow, 1) := by decide +kernel
theorem dX0_addLine_49 : decode cX0_addLine 49 = .ok (.aload_n 0, 1) := by decide +kernel
theorem dX0_addLine_50 : decode cX0_addLine 50 = .ok (.getfield 32, 3) := by decide +kernel
theorem dX0_addLine_53 : decode cX0_addLine 53 = .ok (.istore 5, 2) := by decide +kernel
theorem dX0_addLine_55 : decode cX0_addLine 55 = .ok (.aload_n 0, 1) := by decide +kernel
theorem dX0_addLine_56 : decode cX0_addLine 56 = .ok (.getfield 26, 3) := by decide +kernel
theorem dX0_addLine_59 : decode cX0_addLine 59 = .ok (.iload_n 2, 1) := by decide +kernel
theorem dX0_addLine_60 : decode cX0_addLine 60 = .ok (.iaload, 1) := by decide +kernel
theorem dX0_addLine_61 : decode cX0_addLine 61 = .ok (.iload_n 1, 1) := by decide +kernel
theorem dX0_addLine_62 : decode cX0_addLine 62 = .ok (.isub, 1) := by decide +kernel
theorem dX0_addLine_63 : decode cX0_addLine 63 = .ok (.istore 6, 2) := by decide +kernel
theorem dX0_addLine_65 : decode cX0_addLine 65 = .ok (.aload_n 0, 1) := by decide +kernel
theorem dX0_addLine_66 : decode cX0_addLine 66 = .ok (.getfield 35, 3) := by decide +kernel
theorem dX0_addLine_69 : decode cX0_addLine 69 = .ok (.iload 5, 2) := by decide +kernel
theorem dX0_addLine_71 : decode cX0_addLine 71 = .ok (.iload_n 2, 1) := by decide +kernel
theorem dX0_addLine_72 : decode cX0_addLine 72 = .ok (.iastore, 1) := by decide +kernel
theorem dX0_addLine_73 : decode cX0_addLine 73 = .ok (.aload_n 0, 1) := by decide +kernel
theorem dX0_addLine_74 : decode cX0_addLine 74 = .ok (.getfield 38, 3) := by decide +kernel
theorem dX0_addLine_77 : decode cX0_addLine 77 = .ok (.iload 5, 2) := by decide +kernel
theorem dX0_addLine_79 : decode cX0_addLine 79 = .ok (.iload 6, 2) := by decide +kernel
theorem dX0_addLine_81 : decode cX0_addLine 81 = .ok (.iastore, 1) := by decide +kernel
theorem dX0_addLine_82 : decode cX0_addLine 82 = .ok (.aload_n 0, 1) := by decide +kernel
theorem dX0_addLine_83 : decode cX0_addLine 83 = .ok (.getfield 41, 3) := by decide +kernel
theorem dX0_addLine_86 : decode cX0_addLine 86 = .ok (.iload 5, 2) := by decide +kernel
theorem dX0_addLine_88 : decode cX0_addLine 88 = .ok (.iload_n 3, 1) := by decide +kernel
theorem dX0_addLine_89 : decode cX0_addLine 89 = .ok (.iastore, 1) := by decide +kernel
theorem dX0_addLine_90 : decode cX0_addLine 90 = .ok (.aload_n 0, 1) := by decide +kernel
theorem dX0_addLine_91 : decode cX0_addLine 91 = .ok (.getfield 44, 3) := by decide +kernel
theorem dX0_addLine_94 : decode cX0_addLine 94 = .ok (.iload 5, 2) := by decide +kernel
theorem dX0_addLine_96 : decode cX0_addLine 96 = .ok (.iload 4, 2) := by decide +kernel
theorem dX0_addLine_98 : decode cX0_addLine 98 = .ok (.iastore, 1) := by decide +kernel
theorem dX0_addLine_99 : decode cX0_addLine 99 = .ok (.aload_n 0, 1) := by decide +kernel
theorem dX0_addLine_100 : decode cX0_addLine 100 = .ok (.getfield 47, 3) := by decide +kernel
theorem dX0_addLine_103 : decode cX0_addLine 103 = .ok (.iload 5, 2) := by decide +kernel
theorem dX0_addLine_105 : decode cX0_addLine 105 = .ok (.iload 6, 2) := by decide +kernel
theorem dX0_addLine_107 : decode cX0_addLine 107 = .ok (.sipush 300, 3) := by decide +kernel
theorem dX0_addLine_110 : decode cX0_addLine 110 = .ok (.invokestatic 75, 3) := by decide +kernel
theorem dX0_addLine_113 : decode cX0_addLine 113 = .ok (.iastore, 1) := by decide +kernel
theorem dX0_addLine_114 : decode cX0_addLine 114 = .ok (.aload_n 0, 1) := by decide +kernel
theorem dX0_addLine_115 : decode cX0_addLine 115 = .ok (.getfield 50, 3) := by decide +kernel
theorem dX0_addLine_118 : decode cX0_addLine 118 = .ok (.iload 5, 2) := by decide +kernel
theorem dX0_addLine_120 : decode cX0_addLine 120 = .ok (.iconst 1, 1) := by decide +kernel
theorem dX0_addLine_121 : decode cX0_addLine 121 = .ok (.bastore, 1) := by decide +kernel
theorem dX0_addLine_122 : decode cX0_addLine 122 = .ok (.aload_n 0, 1) := by decide +kernel
theorem dX0_addLine_123 : decode cX0_addLine 123 = .ok (.iload 5, 2) := by decide +kernel
theorem dX0_addLine_125 : decode cX0_addLine 125 = .ok (.iconst 1, 1) := by decide +kernel
theorem dX0_addLine_126 : decode cX0_addLine 126 = .ok (.iadd, 1) := by decide +kernel
theorem dX0_addLine_127 : decode cX0_addLine 127 = .ok (.putfield 32, 3) := by decide +kernel
theorem dX0_addLine_130 : decode cX0_addLine 130 = .ok (.iload 5, 2) := by decide +kernel
theorem dX0_addLine_132 : decode cX0_addLine 132 = .ok (.ireturn, 1) := by decide +kernel
set_option maxRecDepth 20000 in
theorem ggX0_toggle_X0_checkLine : GoodIn wsX0_toggle wsX0_checkLine := goodIn_ca (goodIn_r _ [6, 7, 8, 9, 10, 11, 12, 13, 14, 15, 16, 17, 18, 19, 20, 21, 22, 23, 24] (by decide +kernel) (by decide +kernel)) (goodIn_sub (fun _ h => List.mem_cons_of_mem _ (List.mem_append_right _ h)) (by decide +kernel))
set_option maxRecDepth 20000 in
theorem gX0_toggle_X0_checkLine : GoodIn wsX0_toggle (wsV RX0 79 RX0 yX0_checkLine wsX0_checkLine) := goodIn_app (goodIn_of _ (by decide +kernel)) ggX0_toggle_X0_checkLine
theorem dX0_toggle_0 : decode cX0_toggle 0 = .ok (.aload_n 0, 1) := by decide +kernel
theorem dX0_toggle_1 : decode cX0_toggle 1 = .ok (.iload_n 1, 1) := by decide +kernel
theorem dX0_toggle_2 : decode cX0_toggle 2 = .ok (.invokevirtual 79, 3) := by decide +kernel
theorem dX0_toggle_5 : decode cX0_toggle 5 = .ok (.aload_n 0, 1) := by decide +kernel
theorem dX0_toggle_6 : decode cX0_toggle 6 = .ok (.getfield 50, 3) := by decide +kernel
theorem dX0_toggle_9 : decode cX0_toggle 9 = .ok (.iload_n 1, 1) := by decide +kernel
theorem dX0_toggle_10 : decode cX0_toggle 10 = .ok (.aload_n 0, 1) := by decide +kernel
theorem dX0_toggle_11 : decode cX0_toggle 11 = .ok (.getfield 50, 3) := by decide +kernel
theorem dX0_toggle_14 : decode cX0_toggle 14 = .ok (.iload_n 1, 1) := by decide +kernel
theorem dX0_toggle_15 : decode cX0_toggle 15 = .ok (.baload, 1) := by decide +kernel
theorem dX0_toggle_16 : decode cX0_toggle 16 = .ok (.ifCond .ne 7, 3) := by decide +kernel
theorem dX0_toggle_19 : decode cX0_toggle 19 = .ok (.iconst 1, 1) := by decide +kernel
theorem dX0_toggle_20 : decode cX0_toggle 20 = .ok (.goto 4, 3) := by decide +kernel
theorem dX0_toggle_23 : decode cX0_toggle 23 = .ok (.iconst 0, 1) := by decide +kernel
theorem dX0_toggle_24 : decode cX0_toggle 24 = .ok (.bastore, 1) := by decide +kernel
theorem dX0_toggle_25 : decode cX0_toggle 25 = .ok (.aload_n 0, 1) := by decide +kernel
theorem dX0_toggle_26 : decode cX0_toggle 26 = .ok (.getfield 50, 3) := by decide +kernel
theorem dX0_toggle_29 : decode cX0_toggle 29 = .ok (.iload_n 1, 1) := by decide +kernel
theorem dX0_toggle_30 : decode cX0_toggle 30 = .ok (.baload, 1) := by decide +kernel
theorem dX0_toggle_31 : decode cX0_toggle 31 = .ok (.ireturn, 1) := by decide +kernel
set_option maxRecDepth 20000 in
theorem ggX0_setTide_X0_checkHour : GoodIn wsX0_setTide wsX0_checkHour := goodIn_ca (goodIn_r _ [5, 6, 7] (by decide +kernel) (by decide +kernel)) (goodIn_sub (fun _ h => List.mem_cons_of_mem _ (List.mem_append_left _ (List.mem_append_right _ h))) (by decide +kernel))
set_option maxRecDepth 20000 in
theorem gX0_setTide_X0_checkHour : GoodIn wsX0_setTide (va_wsS RX0 82 yX0_checkHour wsX0_checkHour) := goodIn_app (goodIn_of _ (by decide +kernel)) ggX0_setTide_X0_checkHour
set_option maxRecDepth 20000 in
theorem ggX0_setTide_X0_checkRange : GoodIn wsX0_setTide wsX0_checkRange := goodIn_ca (goodIn_r _ [10, 11, 12] (by decide +kernel) (by decide +kernel)) (goodIn_sub (fun _ h => List.mem_cons_of_mem _ (List.mem_append_right _ h)) (by decide +kernel))
set_option maxRecDepth 20000 in
theorem gX0_setTide_X0_checkRange : GoodIn wsX0_setTide (va_wsS RX0 57 yX0_checkRange wsX0_checkRange) := goodIn_app (goodIn_of _ (by decide +kernel)) ggX0_setTide_X0_checkRange
theorem dX0_setTide_0 : decode cX0_setTide 0 = .ok (.iload_n 1, 1) := by decide +kernel
theorem dX0_setTide_1 : decode cX0_setTide 1 = .ok (.invokestatic 82, 3) := by decide +kernel
theorem dX0_setTide_4 : decode cX0_setTide 4 = .ok (.iload_n 2, 1) := by decide +kernel
theorem dX0_setTide_5 : decode cX0_setTide 5 = .ok (.sipush (-200), 3) := by decide +kernel
theorem dX0_setTide_8 : decode cX0_setTide 8 = .ok (.sipush 200, 3) := by decide +kernel
theorem dX0_setTide_11 : decode cX0_setTide 11 = .ok (.invokestatic 57, 3) := by decide +kernel
theorem dX0_setTide_14 : decode cX0_setTide 14 = .ok (.aload_n 0, 1) := by decide +kernel
theorem dX0_setTide_15 : decode cX0_setTide 15 = .ok (.getfield 9, 3) := by decide +kernel
theorem dX0_setTide_18 : decode cX0_setTide 18 = .ok (.iload_n 1, 1) := by decide +kernel
theorem dX0_setTide_19 : decode cX0_setTide 19 = .ok (.iaload, 1) := by decide +kernel
theorem dX0_setTide_20 : decode cX0_setTide 20 = .ok (.istore_n 3, 1) := by decide +kernel
theorem dX0_setTide_21 : decode cX0_setTide 21 = .ok (.aload_n 0, 1) := by decide +kernel
theorem dX0_setTide_22 : decode cX0_setTide 22 = .ok (.getfield 9, 3) := by decide +kernel
theorem dX0_setTide_25 : decode cX0_setTide 25 = .ok (.iload_n 1, 1) := by decide +kernel
theorem dX0_setTide_26 : decode cX0_setTide 26 = .ok (.iload_n 2, 1) := by decide +kernel
theorem dX0_setTide_27 : decode cX0_setTide 27 = .ok (.iastore, 1) := by decide +kernel
theorem dX0_setTide_28 : decode cX0_setTide 28 = .ok (.iload_n 3, 1) := by decide +kernel
theorem dX0_setTide_29 : decode cX0_setTide 29 = .ok (.ireturn, 1) := by decide +kernel
set_option maxRecDepth 20000 in
theorem ggX0_setLoad_X0_checkHour : GoodIn wsX0_setLoad wsX0_checkHour := goodIn_ca (goodIn_r _ [5, 6, 7] (by decide +kernel) (by decide +kernel)) (goodIn_sub (fun _ h => List.mem_cons_of_mem _ (List.mem_append_left _ (List.mem_append_right _ h))) (by decide +kernel))
set_option maxRecDepth 20000 in
theorem gX0_setLoad_X0_checkHour : GoodIn wsX0_setLoad (va_wsS RX0 82 yX0_checkHour wsX0_checkHour) := goodIn_app (goodIn_of _ (by decide +kernel)) ggX0_setLoad_X0_checkHour
set_option maxRecDepth 20000 in
theorem ggX0_setLoad_X0_checkRange : GoodIn wsX0_setLoad wsX0_checkRange := goodIn_ca (goodIn_r _ [10, 11, 12] (by decide +kernel) (by decide +kernel)) (goodIn_sub (fun _ h => List.mem_cons_of_mem _ (List.mem_append_right _ h)) (by decide +kernel))
set_option maxRecDepth 20000 in
theorem gX0_setLoad_X0_checkRange : GoodIn wsX0_setLoad (va_wsS RX0 57 yX0_checkRange wsX0_checkRange) := goodIn_app (goodIn_of _ (by decide +kernel)) ggX0_setLoad_X0_checkRange
theorem dX0_setLoad_0 : decode cX0_setLoad 0 = .ok (.iload_n 1, 1) := by decide +kernel
theorem dX0_setLoad_1 : decode cX0_setLoad 1 = .ok (.invokestatic 82, 3) := by decide +kernel
theorem dX0_setLoad_4 : decode cX0_setLoad 4 = .ok (.iload_n 2, 1) := by decide +kernel
theorem dX0_setLoad_5 : decode cX0_setLoad 5 = .ok (.sipush (-200), 3) := by decide +kernel
theorem dX0_setLoad_8 : decode cX0_setLoad 8 = .ok (.sipush 200, 3) := by decide +kernel
theorem dX0_setLoad_11 : decode cX0_setLoad 11 = .ok (.invokestatic 57, 3) := by decide +kernel
theorem dX0_setLoad_14 : decode cX0_setLoad 14 = .ok (.aload_n 0, 1) := by decide +kernel
theorem dX0_setLoad_15 : decode cX0_setLoad 15 = .ok (.getfield 13, 3) := by decide +kernel
theorem dX0_setLoad_18 : decode cX0_setLoad 18 = .ok (.iload_n 1, 1) := by decide +kernel
theorem dX0_setLoad_19 : decode cX0_setLoad 19 = .ok (.iaload, 1) := by decide +kernel
theorem dX0_setLoad_20 : decode cX0_setLoad 20 = .ok (.istore_n 3, 1) := by decide +kernel
theorem dX0_setLoad_21 : decode cX0_setLoad 21 = .ok (.iload_n 1, 1) := by decide +kernel
theorem dX0_setLoad_22 : decode cX0_setLoad 22 = .ok (.istore 4, 2) := by decide +kernel
theorem dX0_setLoad_24 : decode cX0_setLoad 24 = .ok (.iload 4, 2) := by decide +kernel
theorem dX0_setLoad_26 : decode cX0_setLoad 26 = .ok (.bipush 48, 2) := by decide +kernel
theorem dX0_setLoad_28 : decode cX0_setLoad 28 = .ok (.if_icmp .ge 17, 3) := by decide +kernel
theorem dX0_setLoad_31 : decode cX0_setLoad 31 = .ok (.aload_n 0, 1) := by decide +kernel
theorem dX0_setLoad_32 : decode cX0_setLoad 32 = .ok (.getfield 13, 3) := by decide +kernel
theorem dX0_setLoad_35 : decode cX0_setLoad 35 = .ok (.iload 4, 2) := by decide +kernel
theorem dX0_setLoad_37 : decode cX0_setLoad 37 = .ok (.iload_n 2, 1) := by decide +kernel
theorem dX0_setLoad_38 : decode cX0_setLoad 38 = .ok (.iastore, 1) := by decide +kernel
theorem dX0_setLoad_39 : decode cX0_setLoad 39 = .ok (.iinc 4 1, 3) := by decide +kernel
theorem dX0_setLoad_42 : decode cX0_setLoad 42 = .ok (.goto (-18), 3) := by decide +kernel
theorem dX0_setLoad_45 : decode cX0_setLoad 45 = .ok (.iload_n 3, 1) := by decide +kernel
theorem dX0_setLoad_46 : decode cX0_setLoad 46 = .ok (.ireturn, 1) := by decide +kernel
set_option maxRecDepth 20000 in
theorem ggX0_setWind_X0_checkRange : GoodIn wsX0_setWind wsX0_checkRange := goodIn_ca (goodIn_r _ [7, 8, 9] (by decide +kernel) (by decide +kernel)) (goodIn_sub (fun _ h => List.mem_cons_of_mem _ (List.mem_append_right _ h)) (by decide +kernel))
set_option maxRecDepth 20000 in
theorem gX0_setWind_X0_checkRange : GoodIn wsX0_setWind (va_wsS RX0 57 yX0_checkRange wsX0_checkRange) := goodIn_app (goodIn_of _ (by decide +kernel)) ggX0_setWind_X0_checkRange
theorem dX0_setWind_0 : decode cX0_setWind 0 = .ok (.iload_n 1, 1) := by decide +kernel
theorem dX0_setWind_1 : decode cX0_setWind 1 = .ok (.ldc 85, 2) := by decide +kernel
theorem dX0_setWind_3 : decode cX0_setWind 3 = .ok (.ldc 61, 2) := by decide +kernel
theorem dX0_setWind_5 : decode cX0_setWind 5 = .ok (.invokestatic 57, 3) := by decide +kernel
theorem dX0_setWind_8 : decode cX0_setWind 8 = .ok (.aload_n 0, 1) := by decide +kernel
theorem dX0_setWind_9 : decode cX0_setWind 9 = .ok (.getfield 19, 3) := by decide +kernel
theorem dX0_setWind_12 : decode cX0_setWind 12 = .ok (.istore_n 2, 1) := by decide +kernel
theorem dX0_setWind_13 : decode cX0_setWind 13 = .ok (.aload_n 0, 1) := by decide +kernel
theorem dX0_setWind_14 : decode cX0_setWind 14 = .ok (.iload_n 1, 1) := by decide +kernel
theorem dX0_setWind_15 : decode cX0_setWind 15 = .ok (.putfield 19, 3) := by decide +kernel
theorem dX0_setWind_18 : decode cX0_setWind 18 = .ok (.iload_n 2, 1) := by decide +kernel
theorem dX0_setWind_19 : decode cX0_setWind 19 = .ok (.ireturn, 1) := by decide +kernel
set_option maxRecDepth 20000 in
theorem ggX0_setPassing_X0_checkHour : GoodIn wsX0_setPassing wsX0_checkHour := goodIn_ca (goodIn_r _ [7, 8, 9] (by decide +kernel) (by decide +kernel)) (goodIn_sub (fun _ h => List.mem_cons_of_mem _ (List.mem_append_left _ (List.mem_append_right _ h))) (by decide +kernel))
set_option maxRecDepth 20000 in
theorem gX0_setPassing_X0_checkHour : GoodIn wsX0_setPassing (va_wsS RX0 82 yX0_checkHour wsX0_checkHour) := goodIn_app (goodIn_of _ (by decide +kernel)) ggX0_setPassing_X0_checkHour
set_option maxRecDepth 20000 in
theorem ggX0_setPassing_X0_checkRange : GoodIn wsX0_setPassing wsX0_checkRange := goodIn_ca (goodIn_r _ [12, 13, 14] (by decide +kernel) (by decide +kernel)) (goodIn_sub (fun _ h => List.mem_cons_of_mem _ (List.mem_append_right _ h)) (by decide +kernel))
set_option maxRecDepth 20000 in
theorem gX0_setPassing_X0_checkRange : GoodIn wsX0_setPassing (va_wsS RX0 57 yX0_checkRange wsX0_checkRange) := goodIn_app (goodIn_of _ (by decide +kernel)) ggX0_setPassing_X0_checkRange
theorem dX0_setPassing_0 : decode cX0_setPassing 0 = .ok (.iload_n 1, 1) := by decide +kernel
theorem dX0_setPassing_1 : decode cX0_setPassing 1 = .ok (.invokestatic 82, 3) := by decide +kernel
theorem dX0_setPassing_4 : decode cX0_setPassing 4 = .ok (.iload_n 2, 1) := by decide +kernel
theorem dX0_setPassing_5 : decode cX0_setPassing 5 = .ok (.ldc 85, 2) := by decide +kernel
theorem dX0_setPassing_7 : decode cX0_setPassing 7 = .ok (.ldc 61, 2) := by decide +kernel
theorem dX0_setPassing_9 : decode cX0_setPassing 9 = .ok (.invokestatic 57, 3) := by decide +kernel
theorem dX0_setPassing_12 : decode cX0_setPassing 12 = .ok (.aload_n 0, 1) := by decide +kernel
theorem dX0_setPassing_13 : decode cX0_setPassing 13 = .ok (.getfield 16, 3) := by decide +kernel
theorem dX0_setPassing_16 : decode cX0_setPassing 16 = .ok (.iload_n 1, 1) := by decide +kernel
theorem dX0_setPassing_17 : decode cX0_setPassing 17 = .ok (.iaload, 1) := by decide +kernel
theorem dX0_setPassing_18 : decode cX0_setPassing 18 = .ok (.istore_n 3, 1) := by decide +kernel
theorem dX0_setPassing_19 : decode cX0_setPassing 19 = .ok (.aload_n 0, 1) := by decide +kernel
theorem dX0_setPassing_20 : decode cX0_setPassing 20 = .ok (.getfield 16, 3) := by decide +kernel
theorem dX0_setPassing_23 : decode cX0_setPassing 23 = .ok (.iload_n 1, 1) := by decide +kernel
theorem dX0_setPassing_24 : decode cX0_setPassing 24 = .ok (.iload_n 2, 1) := by decide +kernel
theorem dX0_setPassing_25 : decode cX0_setPassing 25 = .ok (.iastore, 1) := by decide +kernel
theorem dX0_setPassing_26 : decode cX0_setPassing 26 = .ok (.iload_n 3, 1) := by decide +kernel
theorem dX0_setPassing_27 : decode cX0_setPassing 27 = .ok (.ireturn, 1) := by decide +kernel
set_option maxRecDepth 20000 in
theorem ggX0_force_X0_checkHour : GoodIn wsX0_force wsX0_checkHour := goodIn_ca (goodIn_r _ [4, 5, 6] (by decide +kernel) (by decide +kernel)) (goodIn_sub (fun _ h => List.mem_cons_of_mem _ (List.mem_append_left _ (List.mem_append_right _ h))) (by decide +kernel))
set_option maxRecDepth 20000 in
theorem gX0_force_X0_checkHour : GoodIn wsX0_force (va_wsS RX0 82 yX0_checkHour wsX0_checkHour) := goodIn_app (goodIn_of _ (by decide +kernel)) ggX0_force_X0_checkHour
set_option maxRecDepth 20000 in
theorem ggX0_force_X0_checkRange : GoodIn wsX0_force wsX0_checkRange := goodIn_ca (goodIn_r _ [9, 10, 11] (by decide +kernel) (by decide +kernel)) (goodIn_sub (fun _ h => List.mem_cons_of_mem _ (List.mem_append_right _ h)) (by decide +kernel))
set_option maxRecDepth 20000 in
theorem gX0_force_X0_checkRange : GoodIn wsX0_force (va_wsS RX0 57 yX0_checkRange wsX0_checkRange) := goodIn_app (goodIn_of _ (by decide +kernel)) ggX0_force_X0_checkRange
set_option maxRecDepth 20000 in
theorem ggX0_force_X0_forceWith : GoodIn wsX0_force wsX0_forceWith := goodIn_r _ [15, 16, 17, 18, 19, 20, 21, 3, 22, 23, 24, 25, 26, 27, 28, 29, 30, 31, 32, 33, 34, 35, 36, 37, 38, 39, 40, 41, 42, 43, 44, 45, 46, 47, 48, 49, 50, 51, 52, 53, 54, 55, 56, 57, 58] (by decide +kernel) (by decide +kernel)
set_option maxRecDepth 20000 in
theorem gX0_force_X0_forceWith : GoodIn wsX0_force (wsV RX0 86 RX0 yX0_forceWith wsX0_forceWith) := goodIn_app (goodIn_of _ (by decide +kernel)) ggX0_force_X0_forceWith
theorem dX0_force_0 : decode cX0_force 0 = .ok (.iload_n 1, 1) := by decide +kernel
theorem dX0_force_1 : decode cX0_force 1 = .ok (.invokestatic 82, 3) := by decide +kernel
theorem dX0_force_4 : decode cX0_force 4 = .ok (.iload_n 2, 1) := by decide +kernel
theorem dX0_force_5 : decode cX0_force 5 = .ok (.sipush (-200), 3) := by decide +kernel
theorem dX0_force_8 : decode cX0_force 8 = .ok (.sipush 200, 3) := by decide +kernel
theorem dX0_force_11 : decode cX0_force 11 = .ok (.invokestatic 57, 3) := by decide +kernel
theorem dX0_force_14 : decode cX0_force 14 = .ok (.aload_n 0, 1) := by decide +kernel
theorem dX0_force_15 : decode cX0_force 15 = .ok (.iload_n 1, 1) := by decide +kernel
theorem dX0_force_16 : decode cX0_force 16 = .ok (.iload_n 2, 1) := by decide +kernel
theorem dX0_force_17 : decode cX0_force 17 = .ok (.invokevirtual 86, 3) := by decide +kernel
theorem dX0_force_20 : decode cX0_force 20 = .ok (.ireturn, 1) := by decide +kernel
set_option maxRecDepth 20000 in
theorem ggX0_shift_X0_checkHour : GoodIn wsX0_shift wsX0_checkHour := goodIn_ca (goodIn_r _ [4, 5, 6] (by decide +kernel) (by decide +kernel)) (goodIn_sub (fun _ h => List.mem_cons_of_mem _ (List.mem_append_right _ h)) (by decide +kernel))
set_option maxRecDepth 20000 in
theorem gX0_shift_X0_checkHour : GoodIn wsX0_shift (va_wsS RX0 82 yX0_checkHour wsX0_checkHour) := goodIn_app (goodIn_of _ (by decide +kernel)) ggX0_shift_X0_checkHour
set_option maxRecDepth 20000 in
theorem ggX0_shift_X0_balanceOf : GoodIn wsX0_shift wsX0_balanceOf := goodIn_r _ [10, 11, 12, 13, 14, 15, 16, 17, 3, 18, 19, 20, 21, 22, 23, 24, 25, 26, 27, 28, 29, 30, 31, 32, 33, 34, 35, 36, 37, 38, 39, 40, 41, 42, 43, 44, 45, 46, 47, 48, 49, 50, 51, 52, 53, 54, 55, 56, 57, 58, 59, 60, 61] (by decide +kernel) (by decide +kernel)
set_option maxRecDepth 20000 in
theorem gX0_shift_X0_balanceOf : GoodIn wsX0_shift (wsV RX0 89 RX0 yX0_balanceOf wsX0_balanceOf) := goodIn_app (goodIn_of _ (by decide +kernel)) ggX0_shift_X0_balanceOf
theorem dX0_shift_0 : decode cX0_shift 0 = .ok (.iload_n 1, 1) := by decide +kernel
theorem dX0_shift_1 : decode cX0_shift 1 = .ok (.invokestatic 82, 3) := by decide +kernel
theorem dX0_shift_4 : decode cX0_shift 4 = .ok (.aload_n 0, 1) := by decide +kernel
theorem dX0_shift_5 : decode cX0_shift 5 = .ok (.iload_n 1, 1) := by decide +kernel
theorem dX0_shift_6 : decode cX0_shift 6 = .ok (.invokevirtual 89, 3) := by decide +kernel
theorem dX0_shift_9 : decode cX0_shift 9 = .ok (.ireturn, 1) := by decide +kernel
set_option maxRecDepth 20000 in
theorem ggX0_isAdrift_X0_checkHour : GoodIn wsX0_isAdrift wsX0_checkHour := goodIn_ca (goodIn_r _ [4, 5, 6] (by decide +kernel) (by decide +kernel)) (goodIn_sub (fun _ h => List.mem_cons_of_mem _ (List.mem_append_right _ h)) (by decide +kernel))
set_option maxRecDepth 20000 in
theorem gX0_isAdrift_X0_checkHour : GoodIn wsX0_isAdrift (va_wsS RX0 82 yX0_checkHour wsX0_checkHour) := goodIn_app (goodIn_of _ (by decide +kernel)) ggX0_isAdrift_X0_checkHour
set_option maxRecDepth 20000 in
theorem ggX0_isAdrift_X0_balanceOf : GoodIn wsX0_isAdrift wsX0_balanceOf := goodIn_r _ [10, 11, 12, 13, 14, 15, 16, 17, 3, 18, 19, 20, 21, 22, 23, 24, 25, 26, 27, 28, 29, 30, 31, 32, 33, 34, 35, 36, 37, 38, 39, 40, 41, 42, 43, 44, 45, 46, 51, 52, 53, 54, 55, 56, 57, 58, 59, 60, 61, 62, 63, 64, 65] (by decide +kernel) (by decide +kernel)
set_option maxRecDepth 20000 in
theorem gX0_isAdrift_X0_balanceOf : GoodIn wsX0_isAdrift (wsV RX0 89 RX0 yX0_balanceOf wsX0_balanceOf) := goodIn_app (goodIn_of _ (by decide +kernel)) ggX0_isAdrift_X0_balanceOf
set_option maxRecDepth 20000 in
theorem ggX0_isAdrift_X0_driftsWith : GoodIn wsX0_isAdrift wsX0_driftsWith := goodIn_r _ [50, 15, 16, 17, 3, 18, 19, 20, 21, 22, 23, 24, 25, 26, 27, 28, 29, 30, 31, 32, 33, 34, 35, 36, 37, 38, 39, 40, 41, 42, 43, 44, 45, 46, 51, 52, 53, 54, 55, 56, 57, 58, 59, 60, 61, 62, 63, 64, 65] (by decide +kernel) (by decide +kernel)
set_option maxRecDepth 20000 in
theorem gX0_isAdrift_X0_driftsWith : GoodIn wsX0_isAdrift (wsV RX0 93 RX0 yX0_driftsWith wsX0_driftsWith) := goodIn_app (goodIn_of _ (by decide +kernel)) ggX0_isAdrift_X0_driftsWith
theorem dX0_isAdrift_0 : decode cX0_isAdrift 0 = .ok (.iload_n 1, 1) := by decide +kernel
theorem dX0_isAdrift_1 : decode cX0_isAdrift 1 = .ok (.invokestatic 82, 3) := by decide +kernel
theorem dX0_isAdrift_4 : decode cX0_isAdrift 4 = .ok (.aload_n 0, 1) := by decide +kernel
theorem dX0_isAdrift_5 : decode cX0_isAdrift 5 = .ok (.iload_n 1, 1) := by decide +kernel
theorem dX0_isAdrift_6 : decode cX0_isAdrift 6 = .ok (.aload_n 0, 1) := by decide +kernel
theorem dX0_isAdrift_7 : decode cX0_isAdrift 7 = .ok (.iload_n 1, 1) := by decide +kernel
theorem dX0_isAdrift_8 : decode cX0_isAdrift 8 = .ok (.invokevirtual 89, 3) := by decide +kernel
theorem dX0_isAdrift_11 : decode cX0_isAdrift 11 = .ok (.invokevirtual 93, 3) := by decide +kernel
theorem dX0_isAdrift_14 : decode cX0_isAdrift 14 = .ok (.ireturn, 1) := by decide +kernel
set_option maxRecDepth 20000 in
theorem ggX0_length_X0_checkLine : GoodIn wsX0_length wsX0_checkLine := goodIn_ca (goodIn_r _ [5, 6, 7, 8, 55, 56, 57, 58, 59, 60, 61, 62, 63, 64, 65, 66, 67, 68, 69] (by decide +kernel) (by decide +kernel)) (goodIn_sub (fun _ h => List.mem_cons_of_mem _ (List.mem_append_right _ h)) (by decide +kernel))
set_option maxRecDepth 20000 in
theorem gX0_length_X0_checkLine : GoodIn wsX0_length (wsV RX0 79 RX0 yX0_checkLine wsX0_checkLine) := goodIn_app (goodIn_of _ (by decide +kernel)) ggX0_length_X0_checkLine
set_option maxRecDepth 20000 in
theorem ggX0_length_X0_checkHour : GoodIn wsX0_length wsX0_checkHour := goodIn_ca (goodIn_r _ [11, 6, 7] (by decide +kernel) (by decide +kernel)) (goodIn_sub (fun _ h => List.mem_cons_of_mem _ (List.mem_append_right _ h)) (by decide +kernel))
set_option maxRecDepth 20000 in
theorem gX0_length_X0_checkHour : GoodIn wsX0_length (va_wsS RX0 82 yX0_checkHour wsX0_checkHour) := goodIn_app (goodIn_of _ (by decide +kernel)) ggX0_length_X0_checkHour
set_option maxRecDepth 20000 in
theorem ggX0_length_X0_balanceOf : GoodIn wsX0_length wsX0_balanceOf := goodIn_r _ [15, 16, 17, 18, 19, 20, 21, 22, 4, 23, 24, 25, 8, 26, 27, 28, 29, 30, 31, 32, 33, 34, 35, 36, 37, 38, 39, 40, 41, 42, 43, 44, 45, 46, 47, 48, 49, 50, 55, 56, 57, 58, 59, 60, 61, 62, 63, 64, 65, 66, 67, 68, 69] (by decide +kernel) (by decide +kernel)
set_option maxRecDepth 20000 in
theorem gX0_length_X0_balanceOf : GoodIn wsX0_length (wsV RX0 89 RX0 yX0_balanceOf wsX0_balanceOf) := goodIn_app (goodIn_of _ (by decide +kernel)) ggX0_length_X0_balanceOf
set_option maxRecDepth 20000 in
theorem ggX0_length_X0_lengthWith : GoodIn wsX0_length wsX0_lengthWith := goodIn_r _ [54, 30, 31, 32, 33, 4, 34, 35, 36, 37, 38, 39, 55, 56, 57, 58, 59, 60, 61, 62, 63, 64, 65, 66, 67, 68, 69] (by decide +kernel) (by decide +kernel)
set_option maxRecDepth 20000 in
theorem gX0_length_X0_lengthWith : GoodIn wsX0_length (wsV RX0 97 RX0 yX0_lengthWith wsX0_lengthWith) := goodIn_app (goodIn_of _ (by decide +kernel)) ggX0_length_X0_lengthWith
theorem dX0_length_0 : decode cX0_length 0 = .ok (.aload_n 0, 1) := by decide +kernel
theorem dX0_length_1 : decode cX0_length 1 = .ok (.iload_n 1, 1) := by decide +kernel
theorem dX0_length_2 : decode cX0_length 2 = .ok (.invokevirtual 79, 3) := by decide +kernel
theorem dX0_length_5 : decode cX0_length 5 = .ok (.iload_n 2, 1) := by decide +kernel
theorem dX0_length_6 : decode cX0_length 6 = .ok (.invokestatic 82, 3) := by decide +kernel
theorem dX0_length_9 : decode cX0_length 9 = .ok (.aload_n 0, 1) := by decide +kernel
theorem dX0_length_10 : decode cX0_length 10 = .ok (.iload_n 1, 1) := by decide +kernel
theorem dX0_length_11 : decode cX0_length 11 = .ok (.iload_n 2, 1) := by decide +kernel
theorem dX0_length_12 : decode cX0_length 12 = .ok (.aload_n 0, 1) := by decide +kernel
theorem dX0_length_13 : decode cX0_length 13 = .ok (.iload_n 2, 1) := by decide +kernel
theorem dX0_length_14 : decode cX0_length 14 = .ok (.invokevirtual 89, 3) := by decide +kernel
theorem dX0_length_17 : decode cX0_length 17 = .ok (.invokevirtual 97, 3) := by decide +kernel
theorem dX0_length_20 : decode cX0_length 20 = .ok (.ireturn, 1) := by decide +kernel
set_option maxRecDepth 20000 in
theorem ggX0_tension_X0_checkLine : GoodIn wsX0_tension wsX0_checkLine := goodIn_ca (goodIn_r _ [5, 6, 7, 8, 55, 56, 57, 58, 59, 60, 61, 62, 63, 64, 65, 66, 67, 68, 69] (by decide +kernel) (by decide +kernel)) (goodIn_sub (fun _ h => List.mem_cons_of_mem _ (List.mem_append_right _ h)) (by decide +kernel))
set_option maxRecDepth 20000 in
theorem gX0_tension_X0_checkLine : GoodIn wsX0_tension (wsV RX0 79 RX0 yX0_checkLine wsX0_checkLine) := goodIn_app (goodIn_of _ (by decide +kernel)) ggX0_tension_X0_checkLine
set_option maxRecDepth 20000 in
theorem ggX0_tension_X0_checkHour : GoodIn wsX0_tension wsX0_checkHour := goodIn_ca (goodIn_r _ [11, 6, 7] (by decide +kernel) (by decide +kernel)) (goodIn_sub (fun _ h => List.mem_cons_of_mem _ (List.mem_append_right _ h)) (by decide +kernel))
set_option maxRecDepth 20000 in
theorem gX0_tension_X0_checkHour : GoodIn wsX0_tension (va_wsS RX0 82 yX0_checkHour wsX0_checkHour) := goodIn_app (goodIn_of _ (by decide +kernel)) ggX0_tension_X0_checkHour
set_option maxRecDepth 20000 in
theorem ggX0_tension_X0_balanceOf : GoodIn wsX0_tension wsX0_balanceOf := goodIn_r _ [15, 16, 17, 18, 19, 20, 21, 22, 4, 23, 24, 25, 8, 26, 27, 28, 29, 30, 31, 32, 33, 34, 35, 36, 37, 38, 39, 40, 41, 42, 43, 44, 45, 46, 47, 48, 49, 50, 55, 56, 57, 58, 59, 60, 61, 62, 63, 64, 65, 66, 67, 68, 69] (by decide +kernel) (by decide +kernel)
set_option maxRecDepth 20000 in
theorem gX0_tension_X0_balanceOf : GoodIn wsX0_tension (wsV RX0 89 RX0 yX0_balanceOf wsX0_balanceOf) := goodIn_app (goodIn_of _ (by decide +kernel)) ggX0_tension_X0_balanceOf
set_option maxRecDepth 20000 in
theorem ggX0_tension_X0_lengthWith : GoodIn wsX0_tension wsX0_lengthWith := goodIn_r _ [54, 30, 31, 32, 33, 4, 34, 35, 36, 37, 38, 39, 55, 56, 57, 58, 59, 60, 61, 62, 63, 64, 65, 66, 67, 68, 69] (by decide +kernel) (by decide +kernel)
set_option maxRecDepth 20000 in
theorem gX0_tension_X0_lengthWith : GoodIn wsX0_tension (wsV RX0 97 RX0 yX0_lengthWith wsX0_lengthWith) := goodIn_app (goodIn_of _ (by decide +kernel)) ggX0_tension_X0_lengthWith
set_option maxRecDepth 20000 in
theorem ggX0_tension_X0_tensionAtLength : GoodIn wsX0_tension wsX0_tensionAtLength := goodIn_r _ [43, 44, 45, 46, 47, 48, 49, 50, 55, 56, 57, 58, 59, 60, 61, 62, 63, 64, 65, 66, 67, 68, 69] (by decide +kernel) (by decide +kernel)
set_option maxRecDepth 20000 in
theorem gX0_tension_X0_tensionAtLength : GoodIn wsX0_tension (wsV RX0 101 RX0 yX0_tensionAtLength wsX0_tensionAtLength) := goodIn_app (goodIn_of _ (by decide +kernel)) ggX0_tension_X0_tensionAtLength
theorem dX0_tension_0 : decode cX0_tension 0 = .ok (.aload_n 0, 1) := by decide +kernel
theorem dX0_tension_1 : decode cX0_tension 1 = .ok (.iload_n 1, 1) := by decide +kernel
theorem dX0_tension_2 : decode cX0_tension 2 = .ok (.invokevirtual 79, 3) := by decide +kernel
theorem dX0_tension_5 : decode cX0_tension 5 = .ok (.iload_n 2, 1) := by decide +kernel
theorem dX0_tension_6 : decode cX0_tension 6 = .ok (.invokestatic 82, 3) := by decide +kernel
theorem dX0_tension_9 : decode cX0_tension 9 = .ok (.aload_n 0, 1) := by decide +kernel
theorem dX0_tension_10 : decode cX0_tension 10 = .ok (.iload_n 1, 1) := by decide +kernel
theorem dX0_tension_11 : decode cX0_tension 11 = .ok (.aload_n 0, 1) := by decide +kernel
theorem dX0_tension_12 : decode cX0_tension 12 = .ok (.iload_n 1, 1) := by decide +kernel
theorem dX0_tension_13 : decode cX0_tension 13 = .ok (.iload_n 2, 1) := by decide +kernel
theorem dX0_tension_14 : decode cX0_tension 14 = .ok (.aload_n 0, 1) := by decide +kernel
theorem dX0_tension_15 : decode cX0_tension 15 = .ok (.iload_n 2, 1) := by decide +kernel
theorem dX0_tension_16 : decode cX0_tension 16 = .ok (.invokevirtual 89, 3) := by decide +kernel
theorem dX0_tension_19 : decode cX0_tension 19 = .ok (.invokevirtual 97, 3) := by decide +kernel
theorem dX0_tension_22 : decode cX0_tension 22 = .ok (.invokevirtual 101, 3) := by decide +kernel
theorem dX0_tension_25 : decode cX0_tension 25 = .ok (.ireturn, 1) := by decide +kernel
set_option maxRecDepth 20000 in
theorem ggX0_onBollard_X0_checkBollard : GoodIn wsX0_onBollard wsX0_checkBollard := goodIn_ca (goodIn_r _ [5, 6, 7, 8, 61, 62, 63, 64, 65, 66, 67, 68, 69, 70, 71, 72, 73, 74, 75] (by decide +kernel) (by decide +kernel)) (goodIn_sub (fun _ h => List.mem_cons_of_mem _ (List.mem_append_right _ h)) (by decide +kernel))
set_option maxRecDepth 20000 in
theorem gX0_onBollard_X0_checkBollard : GoodIn wsX0_onBollard (wsV RX0 69 RX0 yX0_checkBollard wsX0_checkBollard) := goodIn_app (goodIn_of _ (by decide +kernel)) ggX0_onBollard_X0_checkBollard
set_option maxRecDepth 20000 in
theorem ggX0_onBollard_X0_checkHour : GoodIn wsX0_onBollard wsX0_checkHour := goodIn_ca (goodIn_r _ [11, 6, 7] (by decide +kernel) (by decide +kernel)) (goodIn_sub (fun _ h => List.mem_cons_of_mem _ (List.mem_append_right _ h)) (by decide +kernel))
set_option maxRecDepth 20000 in
theorem gX0_onBollard_X0_checkHour : GoodIn wsX0_onBollard (va_wsS RX0 82 yX0_checkHour wsX0_checkHour) := goodIn_app (goodIn_of _ (by decide +kernel)) ggX0_onBollard_X0_checkHour
set_option maxRecDepth 20000 in
theorem ggX0_onBollard_X0_balanceOf : GoodIn wsX0_onBollard wsX0_balanceOf := goodIn_r _ [15, 16, 17, 18, 19, 20, 21, 22, 4, 23, 24, 25, 26, 27, 28, 29, 30, 31, 32, 33, 34, 35, 36, 37, 38, 39, 40, 41, 42, 43, 44, 45, 46, 47, 48, 49, 50, 51, 61, 62, 63, 64, 65, 66, 67, 68, 69, 70, 71, 72, 73, 74, 75] (by decide +kernel) (by decide +kernel)
set_option maxRecDepth 20000 in
theorem gX0_onBollard_X0_balanceOf : GoodIn wsX0_onBollard (wsV RX0 89 RX0 yX0_balanceOf wsX0_balanceOf) := goodIn_app (goodIn_of _ (by decide +kernel)) ggX0_onBollard_X0_balanceOf
set_option maxRecDepth 20000 in
theorem ggX0_onBollard_X0_bollardTension : GoodIn wsX0_onBollard wsX0_bollardTension := goodIn_r _ [55, 26, 56, 57, 58, 59, 4, 60, 31, 32, 33, 34, 35, 36, 37, 38, 39, 40, 41, 42, 43, 44, 45, 46, 47, 48, 49, 50, 51, 61, 62, 63, 64, 65, 66, 67, 68, 69, 70, 71, 72, 73, 74, 75] (by decide +kernel) (by decide +kernel)
set_option maxRecDepth 20000 in
theorem gX0_onBollard_X0_bollardTension : GoodIn wsX0_onBollard (wsV RX0 104 RX0 yX0_bollardTension wsX0_bollardTension) := goodIn_app (goodIn_of _ (by decide +kernel)) ggX0_onBollard_X0_bollardTension
theorem dX0_onBollard_0 : decode cX0_onBollard 0 = .ok (.aload_n 0, 1) := by decide +kernel
theorem dX0_onBollard_1 : decode cX0_onBollard 1 = .ok (.iload_n 1, 1) := by decide +kernel
theorem dX0_onBollard_2 : decode cX0_onBollard 2 = .ok (.invokevirtual 69, 3) := by decide +kernel
theorem dX0_onBollard_5 : decode cX0_onBollard 5 = .ok (.iload_n 2, 1) := by decide +kernel
theorem dX0_onBollard_6 : decode cX0_onBollard 6 = .ok (.invokestatic 82, 3) := by decide +kernel
theorem dX0_onBollard_9 : decode cX0_onBollard 9 = .ok (.aload_n 0, 1) := by decide +kernel
theorem dX0_onBollard_10 : decode cX0_onBollard 10 = .ok (.iload_n 1, 1) := by decide +kernel
theorem dX0_onBollard_11 : decode cX0_onBollard 11 = .ok (.iload_n 2, 1) := by decide +kernel
theorem dX0_onBollard_12 : decode cX0_onBollard 12 = .ok (.aload_n 0, 1) := by decide +kernel
theorem dX0_onBollard_13 : decode cX0_onBollard 13 = .ok (.iload_n 2, 1) := by decide +kernel
theorem dX0_onBollard_14 : decode cX0_onBollard 14 = .ok (.invokevirtual 89, 3) := by decide +kernel
theorem dX0_onBollard_17 : decode cX0_onBollard 17 = .ok (.invokevirtual 104, 3) := by decide +kernel
theorem dX0_onBollard_20 : decode cX0_onBollard 20 = .ok (.ireturn, 1) := by decide +kernel
set_option maxRecDepth 20000 in
theorem ggX0_isSafe_X0_checkHour : GoodIn wsX0_isSafe wsX0_checkHour := goodIn_ca (goodIn_r _ [4, 5, 6] (by decide +kernel) (by decide +kernel)) (goodIn_sub (fun _ h => List.mem_cons_of_mem _ (List.mem_append_right _ h)) (by decide +kernel))
set_option maxRecDepth 20000 in
theorem gX0_isSafe_X0_checkHour : GoodIn wsX0_isSafe (va_wsS RX0 82 yX0_checkHour wsX0_checkHour) := goodIn_app (goodIn_of _ (by decide +kernel)) ggX0_isSafe_X0_checkHour
set_option maxRecDepth 20000 in
theorem ggX0_isSafe_X0_holdsIn : GoodIn wsX0_isSafe wsX0_holdsIn := goodIn_r _ [10, 11, 12, 13, 3, 14, 15, 16, 17, 18, 19, 20, 21, 22, 23, 24, 25, 26, 27, 28, 29, 30, 31, 32, 33, 34, 35, 36, 37, 38, 39, 40, 41, 42, 43, 44, 45, 46, 47, 48, 49, 50, 51, 52, 53, 54, 55, 56, 57, 58, 59, 60, 61, 62, 63, 64, 65, 66, 67, 68, 69, 70, 71, 72, 73, 74, 75, 76, 77, 78, 79, 80, 81, 82, 83, 84, 85, 86, 87, 88, 89] (by decide +kernel) (by decide +kernel)
set_option maxRecDepth 20000 in
theorem gX0_isSafe_X0_holdsIn : GoodIn wsX0_isSafe (wsV RX0 107 RX0 yX0_holdsIn wsX0_holdsIn) := goodIn_app (goodIn_of _ (by decide +kernel)) ggX0_isSafe_X0_holdsIn
theorem dX0_isSafe_0 : decode cX0_isSafe 0 = .ok (.iload_n 1, 1) := by decide +kernel
theorem dX0_isSafe_1 : decode cX0_isSafe 1 = .ok (.invokestatic 82, 3) := by decide +kernel
theorem dX0_isSafe_4 : decode cX0_isSafe 4 = .ok (.aload_n 0, 1) := by decide +kernel
theorem dX0_isSafe_5 : decode cX0_isSafe 5 = .ok (.iload_n 1, 1) := by decide +kernel
theorem dX0_isSafe_6 : decode cX0_isSafe 6 = .ok (.invokevirtual 107, 3) := by decide +kernel
theorem dX0_isSafe_9 : decode cX0_isSafe 9 = .ok (.ireturn, 1) := by decide +kernel
set_option maxRecDepth 20000 in
theorem ggX0_firstUnsafe_X0_checkHour : GoodIn wsX0_firstUnsafe wsX0_checkHour := goodIn_ca (goodIn_r _ [4, 5, 6] (by decide +kernel) (by decide +kernel)) (goodIn_sub (fun _ h => List.mem_cons_of_mem _ (List.mem_append_right _ h)) (by decide +kernel))
set_option maxRecDepth 20000 in
theorem gX0_firstUnsafe_X0_checkHour : GoodIn wsX0_firstUnsafe (va_wsS RX0 82 yX0_checkHour wsX0_checkHour) := goodIn_app (goodIn_of _ (by decide +kernel)) ggX0_firstUnsafe_X0_checkHour
set_option maxRecDepth 20000 in
theorem ggX0_firstUnsafe_X0_holdsIn : GoodIn wsX0_firstUnsafe wsX0_holdsIn := goodIn_r _ [10, 11, 12, 13, 3, 14, 15, 16, 17, 18, 19, 20, 21, 22, 23, 24, 25, 26, 27, 28, 29, 30, 31, 32, 33, 34, 35, 36, 37, 38, 39, 40, 41, 42, 43, 44, 45, 46, 47, 48, 49, 50, 51, 52, 53, 54, 55, 56, 57, 58, 59, 60, 61, 62, 63, 64, 65, 66, 67, 68, 69, 70, 71, 72, 73, 74, 75, 76, 77, 78, 79, 80, 81, 82, 83, 84, 85, 86, 87, 88, 89] (by decide +kernel) (by decide +kernel)
set_option maxRecDepth 20000 in
theorem gX0_firstUnsafe_X0_holdsIn : GoodIn wsX0_firstUnsafe (wsV RX0 107 RX0 yX0_holdsIn wsX0_holdsIn) := goodIn_app (goodIn_of _ (by decide +kernel)) ggX0_firstUnsafe_X0_holdsIn
theorem dX0_firstUnsafe_0 : decode cX0_firstUnsafe 0 = .ok (.iload_n 1, 1) := by decide +kernel
theorem dX0_firstUnsafe_1 : decode cX0_firstUnsafe 1 = .ok (.invokestatic 82, 3) := by decide +kernel
theorem dX0_firstUnsafe_4 : decode cX0_firstUnsafe 4 = .ok (.iload_n 1, 1) := by decide +kernel
theorem dX0_firstUnsafe_5 : decode cX0_firstUnsafe 5 = .ok (.istore_n 2, 1) := by decide +kernel
theorem dX0_firstUnsafe_6 : decode cX0_firstUnsafe 6 = .ok (.iload_n 2, 1) := by decide +kernel
theorem dX0_firstUnsafe_7 : decode cX0_firstUnsafe 7 = .ok (.bipush 48, 2) := by decide +kernel
theorem dX0_firstUnsafe_9 : decode cX0_firstUnsafe 9 = .ok (.if_icmp .ge 19, 3) := by decide +kernel
theorem dX0_firstUnsafe_12 : decode cX0_firstUnsafe 12 = .ok (.aload_n 0, 1) := by decide +kernel
theorem dX0_firstUnsafe_13 : decode cX0_firstUnsafe 13 = .ok (.iload_n 2, 1) := by decide +kernel
theorem dX0_firstUnsafe_14 : decode cX0_firstUnsafe 14 = .ok (.invokevirtual 107, 3) := by decide +kernel
theorem dX0_firstUnsafe_17 : decode cX0_firstUnsafe 17 = .ok (.ifCond .ne 5, 3) := by decide +kernel
theorem dX0_firstUnsafe_20 : decode cX0_firstUnsafe 20 = .ok (.iload_n 2, 1) := by decide +kernel
theorem dX0_firstUnsafe_21 : decode cX0_firstUnsafe 21 = .ok (.ireturn, 1) := by decide +kernel
theorem dX0_firstUnsafe_22 : decode cX0_firstUnsafe 22 = .ok (.iinc 2 1, 3) := by decide +kernel
theorem dX0_firstUnsafe_25 : decode cX0_firstUnsafe 25 = .ok (.goto (-19), 3) := by decide +kernel
theorem dX0_firstUnsafe_28 : decode cX0_firstUnsafe 28 = .ok (.iconst (-1), 1) := by decide +kernel
theorem dX0_firstUnsafe_29 : decode cX0_firstUnsafe 29 = .ok (.ireturn, 1) := by decide +kernel
set_option maxRecDepth 20000 in
theorem ggX0_tend_X0_checkLine : GoodIn wsX0_tend wsX0_checkLine := goodIn_ca (goodIn_r _ [13, 14, 15, 16, 62, 63, 64, 65, 66, 67, 68, 69, 70, 71, 72, 73, 74, 75, 76] (by decide +kernel) (by decide +kernel)) (goodIn_sub (fun _ h => List.mem_cons_of_mem _ (List.mem_append_left _ (List.mem_append_right _ h))) (by decide +kernel))
set_option maxRecDepth 20000 in
theorem gX0_tend_X0_checkLine : GoodIn wsX0_tend (wsV RX0 79 RX0 yX0_checkLine wsX0_checkLine) := goodIn_app (goodIn_of _ (by decide +kernel)) ggX0_tend_X0_checkLine
set_option maxRecDepth 20000 in
theorem ggX0_tend_X0_checkHour : GoodIn wsX0_tend wsX0_checkHour := goodIn_ca (goodIn_r _ [19, 14, 15] (by decide +kernel) (by decide +kernel)) (goodIn_sub (fun _ h => List.mem_cons_of_mem _ (List.mem_append_left _ (List.mem_append_right _ h))) (by decide +kernel))
set_option maxRecDepth 20000 in
theorem gX0_tend_X0_checkHour : GoodIn wsX0_tend (va_wsS RX0 82 yX0_checkHour wsX0_checkHour) := goodIn_app (goodIn_of _ (by decide +kernel)) ggX0_tend_X0_checkHour
set_option maxRecDepth 20000 in
theorem ggX0_tend_X0_checkRange : GoodIn wsX0_tend wsX0_checkRange := goodIn_ca (goodIn_r _ [22, 23, 24] (by decide +kernel) (by decide +kernel)) (goodIn_sub (fun _ h => List.mem_cons_of_mem _ (List.mem_append_right _ h)) (by decide +kernel))
set_option maxRecDepth 20000 in
theorem gX0_tend_X0_checkRange : GoodIn wsX0_tend (va_wsS RX0 57 yX0_checkRange wsX0_checkRange) := goodIn_app (goodIn_of _ (by decide +kernel)) ggX0_tend_X0_checkRange
set_option maxRecDepth 20000 in
theorem ggX0_tend_X0_balanceOf : GoodIn wsX0_tend wsX0_balanceOf := goodIn_r _ [28, 29, 30, 31, 32, 33, 34, 35, 12, 36, 37, 38, 16, 39, 40, 41, 42, 43, 44, 45, 46, 47, 48, 49, 50, 51, 52, 53, 54, 55, 56, 3, 57, 4, 5, 6, 7, 8, 62, 63, 64, 65, 66, 67, 68, 69, 70, 71, 72, 73, 74, 75, 76] (by decide +kernel) (by decide +kernel)
set_option maxRecDepth 20000 in
theorem gX0_tend_X0_balanceOf : GoodIn wsX0_tend (wsV RX0 89 RX0 yX0_balanceOf wsX0_balanceOf) := goodIn_app (goodIn_of _ (by decide +kernel)) ggX0_tend_X0_balanceOf
set_option maxRecDepth 20000 in
theorem ggX0_tend_X0_lengthWith : GoodIn wsX0_tend wsX0_lengthWith := goodIn_r _ [61, 43, 44, 45, 46, 12, 47, 48, 49, 50, 51, 52, 62, 63, 64, 65, 66, 67, 68, 69, 70, 71, 72, 73, 74, 75, 76] (by decide +kernel) (by decide +kernel)
set_option maxRecDepth 20000 in
theorem gX0_tend_X0_lengthWith : GoodIn wsX0_tend (wsV RX0 97 RX0 yX0_lengthWith wsX0_lengthWith) := goodIn_app (goodIn_of _ (by decide +kernel)) ggX0_tend_X0_lengthWith
theorem dX0_tend_0 : decode cX0_tend 0 = .ok (.aload_n 0, 1) := by decide +kernel
theorem dX0_tend_1 : decode cX0_tend 1 = .ok (.iload_n 1, 1) := by decide +kernel
theorem dX0_tend_2 : decode cX0_tend 2 = .ok (.invokevirtual 79, 3) := by decide +kernel
theorem dX0_tend_5 : decode cX0_tend 5 = .ok (.iload_n 2, 1) := by decide +kernel
theorem dX0_tend_6 : decode cX0_tend 6 = .ok (.invokestatic 82, 3) := by decide +kernel
theorem dX0_tend_9 : decode cX0_tend 9 = .ok (.iload_n 3, 1) := by decide +kernel
theorem dX0_tend_10 : decode cX0_tend 10 = .ok (.bipush (-100), 2) := by decide +kernel
theorem dX0_tend_12 : decode cX0_tend 12 = .ok (.bipush 100, 2) := by decide +kernel
theorem dX0_tend_14 : decode cX0_tend 14 = .ok (.invokestatic 57, 3) := by decide +kernel
theorem dX0_tend_17 : decode cX0_tend 17 = .ok (.aload_n 0, 1) := by decide +kernel
theorem dX0_tend_18 : decode cX0_tend 18 = .ok (.getfield 50, 3) := by decide +kernel
theorem dX0_tend_21 : decode cX0_tend 21 = .ok (.iload_n 1, 1) := by decide +kernel
theorem dX0_tend_22 : decode cX0_tend 22 = .ok (.baload, 1) := by decide +kernel
theorem dX0_tend_23 : decode cX0_tend 23 = .ok (.ifCond .ne 13, 3) := by decide +kernel
theorem dX0_tend_26 : decode cX0_tend 26 = .ok (.new 62, 3) := by decide +kernel
theorem dX0_tend_29 : decode cX0_tend 29 = .ok (.dup, 1) := by decide +kernel
theorem dX0_tend_30 : decode cX0_tend 30 = .ok (.ldc 111, 2) := by decide +kernel
theorem dX0_tend_32 : decode cX0_tend 32 = .ok (.invokespecial 66, 3) := by decide +kernel
theorem dX0_tend_35 : decode cX0_tend 35 = .ok (.athrow, 1) := by decide +kernel
theorem dX0_tend_36 : decode cX0_tend 36 = .ok (.aload_n 0, 1) := by decide +kernel
theorem dX0_tend_37 : decode cX0_tend 37 = .ok (.getfield 47, 3) := by decide +kernel
theorem dX0_tend_40 : decode cX0_tend 40 = .ok (.iload_n 1, 1) := by decide +kernel
theorem dX0_tend_41 : decode cX0_tend 41 = .ok (.iconst 0, 1) := by decide +kernel
theorem dX0_tend_42 : decode cX0_tend 42 = .ok (.aload_n 0, 1) := by decide +kernel
theorem dX0_tend_43 : decode cX0_tend 43 = .ok (.iload_n 1, 1) := by decide +kernel
theorem dX0_tend_44 : decode cX0_tend 44 = .ok (.iload_n 2, 1) := by decide +kernel
theorem dX0_tend_45 : decode cX0_tend 45 = .ok (.aload_n 0, 1) := by decide +kernel
theorem dX0_tend_46 : decode cX0_tend 46 = .ok (.iload_n 2, 1) := by decide +kernel
theorem dX0_tend_47 : decode cX0_tend 47 = .ok (.invokevirtual 89, 3) := by decide +kernel
theorem dX0_tend_50 : decode cX0_tend 50 = .ok (.invokevirtual 97, 3) := by decide +kernel
theorem dX0_tend_53 : decode cX0_tend 53 = .ok (.iload_n 3, 1) := by decide +kernel
theorem dX0_tend_54 : decode cX0_tend 54 = .ok (.iadd, 1) := by decide +kernel
theorem dX0_tend_55 : decode cX0_tend 55 = .ok (.invokestatic 113, 3) := by decide +kernel
theorem dX0_tend_58 : decode cX0_tend 58 = .ok (.iastore, 1) := by decide +kernel
theorem dX0_tend_59 : decode cX0_tend 59 = .ok (.aload_n 0, 1) := by decide +kernel
theorem dX0_tend_60 : decode cX0_tend 60 = .ok (.getfield 47, 3) := by decide +kernel
theorem dX0_tend_63 : decode cX0_tend 63 = .ok (.iload_n 1, 1) := by decide +kernel
theorem dX0_tend_64 : decode cX0_tend 64 = .ok (.iaload, 1) := by decide +kernel
theorem dX0_tend_65 : decode cX0_tend 65 = .ok (.ireturn, 1) := by decide +kernel
set_option maxRecDepth 20000 in
theorem ggX0_tendAll_X0_checkHour : GoodIn wsX0_tendAll wsX0_checkHour := goodIn_ca (goodIn_r _ [4, 5, 6] (by decide +kernel) (by decide +kernel)) (goodIn_sub (fun _ h => List.mem_cons_of_mem _ (List.mem_append_right _ h)) (by decide +kernel))
set_option maxRecDepth 20000 in
theorem gX0_tendAll_X0_checkHour : GoodIn wsX0_tendAll (va_wsS RX0 82 yX0_checkHour wsX0_checkHour) := goodIn_app (goodIn_of _ (by decide +kernel)) ggX0_tendAll_X0_checkHour
set_option maxRecDepth 20000 in
theorem ggX0_tendAll_X0_tendFastLines : GoodIn wsX0_tendAll wsX0_tendFastLines := goodIn_r _ [10, 11, 12, 13, 14, 15, 16, 3, 17, 18, 19, 20, 21, 22, 23, 24, 25, 26, 27, 28, 29, 30, 31, 32, 33, 34, 35, 36, 37, 38, 39, 40, 41, 42, 43, 44, 45, 46, 47, 48, 49, 50, 51, 52, 53, 54, 55, 56, 57, 58, 59, 60, 61, 62, 63, 64, 65, 66, 67, 68, 69] (by decide +kernel) (by decide +kernel)
set_option maxRecDepth 20000 in
theorem gX0_tendAll_X0_tendFastLines : GoodIn wsX0_tendAll (wsV RX0 118 RX0 yX0_tendFastLines wsX0_tendFastLines) := goodIn_app (goodIn_of _ (by decide +kernel)) ggX0_tendAll_X0_tendFastLines
theorem dX0_tendAll_0 : decode cX0_tendAll 0 = .ok (.iload_n 1, 1) := by decide +kernel
theorem dX0_tendAll_1 : decode cX0_tendAll 1 = .ok (.invokestatic 82, 3) := by decide +kernel
theorem dX0_tendAll_4 : decode cX0_tendAll 4 = .ok (.aload_n 0, 1) := by decide +kernel
theorem dX0_tendAll_5 : decode cX0_tendAll 5 = .ok (.iload_n 1, 1) := by decide +kernel
theorem dX0_tendAll_6 : decode cX0_tendAll 6 = .ok (.invokevirtual 118, 3) := by decide +kernel
theorem dX0_tendAll_9 : decode cX0_tendAll 9 = .ok (.ireturn, 1) := by decide +kernel
set_option maxRecDepth 20000 in
theorem ggX0_plan_X0_checkHour : GoodIn wsX0_plan wsX0_checkHour := goodIn_ca (goodIn_r _ [12, 13, 14] (by decide +kernel) (by decide +kernel)) (goodIn_sub (fun _ h => List.mem_cons_of_mem _ (List.mem_append_right _ h)) (by decide +kernel))
set_option maxRecDepth 20000 in
theorem gX0_plan_X0_checkHour : GoodIn wsX0_plan (va_wsS RX0 82 yX0_checkHour wsX0_checkHour) := goodIn_app (goodIn_of _ (by decide +kernel)) ggX0_plan_X0_checkHour
set_option maxRecDepth 20000 in
theorem ggX0_plan_X0_tendThrough : GoodIn wsX0_plan wsX0_tendThrough := goodIn_r _ [18, 19, 20, 21, 11, 22, 23, 24, 25, 26, 27, 28, 29, 30, 31, 32, 33, 34, 35, 36, 37, 38, 39, 40, 41, 42, 43, 44, 45, 46, 47, 48, 49, 50, 51, 52, 53, 54, 55, 56, 57, 3, 58, 59, 60, 61, 62, 63, 64, 65, 66, 67, 68, 69, 70, 71, 72, 73, 74, 75, 76, 77, 78, 79, 80, 81, 82, 83, 84, 85, 86, 87, 88, 89, 90, 91, 92, 93, 94, 95, 96, 97, 98, 99, 100, 101, 102, 103, 104] (by decide +kernel) (by decide +kernel)
set_option maxRecDepth 20000 in
theorem gX0_plan_X0_tendThrough : GoodIn wsX0_plan (wsV RX0 132 RX0 yX0_tendThrough wsX0_tendThrough) := goodIn_app (goodIn_of _ (by decide +kernel)) ggX0_plan_X0_tendThrough
theorem dX0_plan_0 : decode cX0_plan 0 = .ok (.iload_n 1, 1) := by decide +kernel
theorem dX0_plan_1 : decode cX0_plan 1 = .ok (.invokestatic 82, 3) := by decide +kernel
theorem dX0_plan_4 : decode cX0_plan 4 = .ok (.iload_n 2, 1) := by decide +kernel
theorem dX0_plan_5 : decode cX0_plan 5 = .ok (.invokestatic 82, 3) := by decide +kernel
theorem dX0_plan_8 : decode cX0_plan 8 = .ok (.iload_n 2, 1) := by decide +kernel
theorem dX0_plan_9 : decode cX0_plan 9 = .ok (.iload_n 1, 1) := by decide +kernel
theorem dX0_plan_10 : decode cX0_plan 10 = .ok (.if_icmp .ge 13, 3) := by decide +kernel
theorem dX0_plan_13 : decode cX0_plan 13 = .ok (.new 121, 3) := by decide +kernel
theorem dX0_plan_16 : decode cX0_plan 16 = .ok (.dup, 1) := by decide +kernel
theorem dX0_plan_17 : decode cX0_plan 17 = .ok (.ldc 123, 2) := by decide +kernel
theorem dX0_plan_19 : decode cX0_plan 19 = .ok (.invokespecial 125, 3) := by decide +kernel
theorem dX0_plan_22 : decode cX0_plan 22 = .ok (.athrow, 1) := by decide +kernel
theorem dX0_plan_23 : decode cX0_plan 23 = .ok (.aload_n 0, 1) := by decide +kernel
theorem dX0_plan_24 : decode cX0_plan 24 = .ok (.getfield 47, 3) := by decide +kernel
theorem dX0_plan_27 : decode cX0_plan 27 = .ok (.iconst 0, 1) := by decide +kernel
theorem dX0_plan_28 : decode cX0_plan 28 = .ok (.aload_n 0, 1) := by decide +kernel
theorem dX0_plan_29 : decode cX0_plan 29 = .ok (.getfield 54, 3) := by decide +kernel
theorem dX0_plan_32 : decode cX0_plan 32 = .ok (.iconst 0, 1) := by decide +kernel
theorem dX0_plan_33 : decode cX0_plan 33 = .ok (.bipush 10, 2) := by decide +kernel
theorem dX0_plan_35 : decode cX0_plan 35 = .ok (.invokestatic 126, 3) := by decide +kernel
theorem dX0_plan_38 : decode cX0_plan 38 = .ok (.aload_n 0, 1) := by decide +kernel
theorem dX0_plan_39 : decode cX0_plan 39 = .ok (.iload_n 1, 1) := by decide +kernel
theorem dX0_plan_40 : decode cX0_plan 40 = .ok (.iload_n 2, 1) := by decide +kernel
theorem dX0_plan_41 : decode cX0_plan 41 = .ok (.invokevirtual 132, 3) := by decide +kernel
theorem dX0_plan_44 : decode cX0_plan 44 = .ok (.istore_n 3, 1) := by decide +kernel
theorem dX0_plan_45 : decode cX0_plan 45 = .ok (.aload_n 0, 1) := by decide +kernel
theorem dX0_plan_46 : decode cX0_plan 46 = .ok (.getfield 54, 3) := by decide +kernel
theorem dX0_plan_49 : decode cX0_plan 49 = .ok (.iconst 0, 1) := by decide +kernel
theorem dX0_plan_50 : decode cX0_plan 50 = .ok (.aload_n 0, 1) := by decide +kernel
theorem dX0_plan_51 : decode cX0_plan 51 = .ok (.getfield 47, 3) := by decide +kernel
theorem dX0_plan_54 : decode cX0_plan 54 = .ok (.iconst 0, 1) := by decide +kernel
theorem dX0_plan_55 : decode cX0_plan 55 = .ok (.bipush 10, 2) := by decide +kernel
theorem dX0_plan_57 : decode cX0_plan 57 = .ok (.invokestatic 126, 3) := by decide +kernel
theorem dX0_plan_60 : decode cX0_plan 60 = .ok (.iload_n 3, 1) := by decide +kernel
theorem dX0_plan_61 : decode cX0_plan 61 = .ok (.ireturn, 1) := by decide +kernel
theorem dX0_checkHour_0 : decode cX0_checkHour 0 = .ok (.iload_n 0, 1) := by decide +kernel
theorem dX0_checkHour_1 : decode cX0_checkHour 1 = .ok (.ifCond .lt 9, 3) := by decide +kernel
theorem dX0_checkHour_4 : decode cX0_checkHour 4 = .ok (.iload_n 0, 1) := by decide +kernel
theorem dX0_checkHour_5 : decode cX0_checkHour 5 = .ok (.bipush 48, 2) := by decide +kernel
theorem dX0_checkHour_7 : decode cX0_checkHour 7 = .ok (.if_icmp .lt 13, 3) := by decide +kernel
theorem dX0_checkHour_10 : decode cX0_checkHour 10 = .ok (.new 135, 3) := by decide +kernel
theorem dX0_checkHour_13 : decode cX0_checkHour 13 = .ok (.dup, 1) := by decide +kernel
theorem dX0_checkHour_14 : decode cX0_checkHour 14 = .ok (.ldc 137, 2) := by decide +kernel
theorem dX0_checkHour_16 : decode cX0_checkHour 16 = .ok (.invokespecial 139, 3) := by decide +kernel
theorem dX0_checkHour_19 : decode cX0_checkHour 19 = .ok (.athrow, 1) := by decide +kernel
theorem dX0_checkHour_20 : decode cX0_checkHour 20 = .ok (.return_, 1) := by decide +kernel
theorem dX0_checkBollard_0 : decode cX0_checkBollard 0 = .ok (.iload_n 1, 1) := by decide +kernel
theorem dX0_checkBollard_1 : decode cX0_checkBollard 1 = .ok (.ifCond .lt 11, 3) := by decide +kernel
theorem dX0_checkBollard_4 : decode cX0_checkBollard 4 = .ok (.iload_n 1, 1) := by decide +kernel
theorem dX0_checkBollard_5 : decode cX0_checkBollard 5 = .ok (.aload_n 0, 1) := by decide +kernel
theorem dX0_checkBollard_6 : decode cX0_checkBollard 6 = .ok (.getfield 23, 3) := by decide +kernel
theorem dX0_checkBollard_9 : decode cX0_checkBollard 9 = .ok (.if_icmp .lt 13, 3) := by decide +kernel
theorem dX0_checkBollard_12 : decode cX0_checkBollard 12 = .ok (.new 135, 3) := by decide +kernel
theorem dX0_checkBollard_15 : decode cX0_checkBollard 15 = .ok (.dup, 1) := by decide +kernel
theorem dX0_checkBollard_16 : decode cX0_checkBollard 16 = .ok (.ldc 140, 2) := by decide +kernel
theorem dX0_checkBollard_18 : decode cX0_checkBollard 18 = .ok (.invokespecial 139, 3) := by decide +kernel
theorem dX0_checkBollard_21 : decode cX0_checkBollard 21 = .ok (.athrow, 1) := by decide +kernel
theorem dX0_checkBollard_22 : decode cX0_checkBollard 22 = .ok (.return_, 1) := by decide +kernel
theorem dX0_checkLine_0 : decode cX0_checkLine 0 = .ok (.iload_n 1, 1) := by decide +kernel
theorem dX0_checkLine_1 : decode cX0_checkLine 1 = .ok (.ifCond .lt 11, 3) := by decide +kernel
theorem dX0_checkLine_4 : decode cX0_checkLine 4 = .ok (.iload_n 1, 1) := by decide +kernel
theorem dX0_checkLine_5 : decode cX0_checkLine 5 = .ok (.aload_n 0, 1) := by decide +kernel
theorem dX0_checkLine_6 : decode cX0_checkLine 6 = .ok (.getfield 32, 3) := by decide +kernel
theorem dX0_checkLine_9 : decode cX0_checkLine 9 = .ok (.if_icmp .lt 13, 3) := by decide +kernel
theorem dX0_checkLine_12 : decode cX0_checkLine 12 = .ok (.new 135, 3) := by decide +kernel
theorem dX0_checkLine_15 : decode cX0_checkLine 15 = .ok (.dup, 1) := by decide +kernel
theorem dX0_checkLine_16 : decode cX0_checkLine 16 = .ok (.ldc 142, 2) := by decide +kernel
theorem dX0_checkLine_18 : decode cX0_checkLine 18 = .ok (.invokespecial 139, 3) := by decide +kernel
theorem dX0_checkLine_21 : decode cX0_checkLine 21 = .ok (.athrow, 1) := by decide +kernel
theorem dX0_checkLine_22 : decode cX0_checkLine 22 = .ok (.return_, 1) := by decide +kernel
theorem dX0_checkRange_0 : decode cX0_checkRange 0 = .ok (.iload_n 0, 1) := by decide +kernel
theorem dX0_checkRange_1 : decode cX0_checkRange 1 = .ok (.iload_n 1, 1) := by decide +kernel
theorem dX0_checkRange_2 : decode cX0_checkRange 2 = .ok (.if_icmp .lt 8, 3) := by decide +kernel
theorem dX0_checkRange_5 : decode cX0_checkRange 5 = .ok (.iload_n 0, 1) := by decide +kernel
theorem dX0_checkRange_6 : decode cX0_checkRange 6 = .ok (.iload_n 2, 1) := by decide +kernel
theorem dX0_checkRange_7 : decode cX0_checkRange 7 = .ok (.if_icmp .le 13, 3) := by decide +kernel
theorem dX0_checkRange_10 : decode cX0_checkRange 10 = .ok (.new 121, 3) := by decide +kernel
theorem dX0_checkRange_13 : decode cX0_checkRange 13 = .ok (.dup, 1) := by decide +kernel
theorem dX0_checkRange_14 : decode cX0_checkRange 14 = .ok (.ldc 144, 2) := by decide +kernel
theorem dX0_checkRange_16 : decode cX0_checkRange 16 = .ok (.invokespecial 125, 3) := by decide +kernel
theorem dX0_checkRange_19 : decode cX0_checkRange 19 = .ok (.athrow, 1) := by decide +kernel
theorem dX0_checkRange_20 : decode cX0_checkRange 20 = .ok (.return_, 1) := by decide +kernel
theorem dX0_heightIn_0 : decode cX0_heightIn 0 = .ok (.sipush 300, 3) := by decide +kernel
theorem dX0_heightIn_3 : decode cX0_heightIn 3 = .ok (.aload_n 0, 1) := by decide +kernel
theorem dX0_heightIn_4 : decode cX0_heightIn 4 = .ok (.getfield 9, 3) := by decide +kernel
theorem dX0_heightIn_7 : decode cX0_heightIn 7 = .ok (.iload_n 1, 1) := by decide +kernel
theorem dX0_heightIn_8 : decode cX0_heightIn 8 = .ok (.iaload, 1) := by decide +kernel
theorem dX0_heightIn_9 : decode cX0_heightIn 9 = .ok (.iadd, 1) := by decide +kernel
theorem dX0_heightIn_10 : decode cX0_heightIn 10 = .ok (.aload_n 0, 1) := by decide +kernel
theorem dX0_heightIn_11 : decode cX0_heightIn 11 = .ok (.getfield 13, 3) := by decide +kernel
theorem dX0_heightIn_14 : decode cX0_heightIn 14 = .ok (.iload_n 1, 1) := by decide +kernel
theorem dX0_heightIn_15 : decode cX0_heightIn 15 = .ok (.iaload, 1) := by decide +kernel
theorem dX0_heightIn_16 : decode cX0_heightIn 16 = .ok (.iadd, 1) := by decide +kernel
theorem dX0_heightIn_17 : decode cX0_heightIn 17 = .ok (.ireturn, 1) := by decide +kernel
theorem dX0_lengthOver_0 : decode cX0_lengthOver 0 = .ok (.iload_n 0, 1) := by decide +kernel
theorem dX0_lengthOver_1 : decode cX0_lengthOver 1 = .ok (.iload_n 0, 1) := by decide +kernel
theorem dX0_lengthOver_2 : decode cX0_lengthOver 2 = .ok (.imul, 1) := by decide +kernel
theorem dX0_lengthOver_3 : decode cX0_lengthOver 3 = .ok (.iload_n 1, 1) := by decide +kernel
theorem dX0_lengthOver_4 : decode cX0_lengthOver 4 = .ok (.iload_n 1, 1) := by decide +kernel
theorem dX0_lengthOver_5 : decode cX0_lengthOver 5 = .ok (.imul, 1) := by decide +kernel
theorem dX0_lengthOver_6 : decode cX0_lengthOver 6 = .ok (.iadd, 1) := by decide +kernel
theorem dX0_lengthOver_7 : decode cX0_lengthOver 7 = .ok (.istore_n 2, 1) := by decide +kernel
theorem dX0_lengthOver_8 : decode cX0_lengthOver 8 = .ok (.iconst 0, 1) := by decide +kernel
theorem dX0_lengthOver_9 : decode cX0_lengthOver 9 = .ok (.istore_n 3, 1) := by decide +kernel
theorem dX0_lengthOver_10 : decode cX0_lengthOver 10 = .ok (.sipush 8192, 3) := by decide +kernel
theorem dX0_lengthOver_13 : decode cX0_lengthOver 13 = .ok (.istore 4, 2) := by decide +kernel
theorem dX0_lengthOver_15 : decode cX0_lengthOver 15 = .ok (.iload 4, 2) := by decide +kernel
theorem dX0_lengthOver_17 : decode cX0_lengthOver 17 = .ok (.ifCond .le 30, 3) := by decide +kernel
theorem dX0_lengthOver_20 : decode cX0_lengthOver 20 = .ok (.iload_n 3, 1) := by decide +kernel
theorem dX0_lengthOver_21 : decode cX0_lengthOver 21 = .ok (.iload 4, 2) := by decide +kernel
theorem dX0_lengthOver_23 : decode cX0_lengthOver 23 = .ok (.iadd, 1) := by decide +kernel
theorem dX0_lengthOver_24 : decode cX0_lengthOver 24 = .ok (.istore 5, 2) := by decide +kernel
theorem dX0_lengthOver_26 : decode cX0_lengthOver 26 = .ok (.iload 5, 2) := by decide +kernel
theorem dX0_lengthOver_28 : decode cX0_lengthOver 28 = .ok (.iload 5, 2) := by decide +kernel
theorem dX0_lengthOver_30 : decode cX0_lengthOver 30 = .ok (.imul, 1) := by decide +kernel
theorem dX0_lengthOver_31 : decode cX0_lengthOver 31 = .ok (.iload_n 2, 1) := by decide +kernel
theorem dX0_lengthOver_32 : decode cX0_lengthOver 32 = .ok (.if_icmp .gt 6, 3) := by decide +kernel
theorem dX0_lengthOver_35 : decode cX0_lengthOver 35 = .ok (.iload 5, 2) := by decide +kernel
theorem dX0_lengthOver_37 : decode cX0_lengthOver 37 = .ok (.istore_n 3, 1) := by decide +kernel
theorem dX0_lengthOver_38 : decode cX0_lengthOver 38 = .ok (.iload 4, 2) := by decide +kernel
